-- deps: 69.d5
/-! the reference's constructor -/
def ma (k : Nat) : Nat := if k ≤ 16 then 29 + k else if k ≤ 28 then 28 + k else 27 + k
def fv (n k : Nat) : Value := if k = 0 ∨ k = 1 ∨ k = 2 ∨ k = 17 ∨ k = 29 then .int 0 else if ma k < 32 + n then .ref (ma k) else .null
def fsN (n : Nat) : List Value := (List.range 46).map (fv n)
def zc (a : Nat) : pm_C := .inl (m_tag a, (List.range (m_len a)).map fun _ => pm_dv (m_tag a))
def mI (cs0 : List pm_C) (n : Nat) : List pm_C := (List.range (32 + n)).map fun a => if a < 31 then cs0.getD a (.inl (0, [])) else if a = 31 then .inr (8, fsN n) else zc a
def kI (kn : Nat × Nat) : Nat → Nat × Nat
  | 0 => kn
  | n + 1 => ((kI kn n).1 + 1, (kI kn n).2 + m_len (32 + n))
theorem mI_len {cs0 : List pm_C} {n : Nat} : (mI cs0 n).length = 32 + n := by unfold mI; rw [List.length_map, List.length_range]
theorem mI_get {cs0 : List pm_C} {n a : Nat} (h : a < 32 + n) : (mI cs0 n)[a]? = some (if a < 31 then cs0.getD a (.inl (0, [])) else if a = 31 then .inr (8, fsN n) else zc a) := by
  unfold mI
  rw [List.getElem?_map, List.getElem?_range h]; rfl
theorem mI_none {cs0 : List pm_C} {n a : Nat} (h : 32 + n ≤ a) : (mI cs0 n)[a]? = none := List.getElem?_eq_none (by rw [mI_len]; exact h)
theorem mI_0 {cs0 : List pm_C} (h : cs0.length = 31) : cs0 ++ [.inr (8, pm_df 8)] = mI cs0 0 := by
  apply List.ext_getElem?
  intro a
  rcases Nat.lt_trichotomy a 31 with z | z | z
  · rw [mI_get (by omega), if_pos z, List.getElem?_append_left (by omega), List.getD_eq_getElem?_getD]
    rw [List.getElem?_eq_getElem (by omega)]; rfl
  · subst z
    rw [mI_get (by omega), if_neg (by omega), if_pos rfl, List.getElem?_append_right (by omega), h]
    rfl
  · rw [mI_none (by omega), List.getElem?_eq_none (by rw [List.length_append]; show cs0.length + 1 ≤ a; omega)]
theorem ma_inj {a b : Nat} (ha : ¬ (a = 0 ∨ a = 1 ∨ a = 2 ∨ a = 17 ∨ a = 29)) (hb : ¬ (b = 0 ∨ b = 1 ∨ b = 2 ∨ b = 17 ∨ b = 29)) (h : ma a = ma b) : a = b := by
  unfold ma at h
  split at h <;> split at h <;> (try split at h) <;> (try split at h) <;> omega
theorem fs_step {n k : Nat} (hk : k < 46) (hs : ¬ (k = 0 ∨ k = 1 ∨ k = 2 ∨ k = 17 ∨ k = 29)) (hm : ma k = 32 + n) : (fsN n).set k (.ref (32 + n)) = fsN (n + 1) := by
  unfold fsN
  rw [map_up 46 k hk]
  apply List.map_congr_left
  intro b hb
  by_cases e : b = k
  · subst e
    rw [if_pos rfl]
    unfold fv
    rw [if_neg hs, if_pos (by omega), hm]
  · rw [if_neg e]
    unfold fv
    by_cases hb2 : b = 0 ∨ b = 1 ∨ b = 2 ∨ b = 17 ∨ b = 29
    · rw [if_pos hb2, if_pos hb2]
    · rw [if_neg hb2, if_neg hb2]
      have hne : ma b ≠ 32 + n := fun z => e (ma_inj hb2 hs (z.trans hm.symm))
      by_cases z : ma b < 32 + n
      · rw [if_pos z, if_pos (by omega)]
      · rw [if_neg z, if_neg (by omega)]
theorem mI_step {cs0 : List pm_C} {n k : Nat} (hk : k < 46) (hs : ¬ (k = 0 ∨ k = 1 ∨ k = 2 ∨ k = 17 ∨ k = 29)) (hm : ma k = 32 + n) : (mI cs0 n ++ [zc (32 + n)]).set 31 (.inr (8, (fsN n).set k (.ref (32 + n)))) = mI cs0 (n + 1) := by
  rw [fs_step hk hs hm]
  apply List.ext_getElem?
  intro a
  by_cases e : a = 31
  · subst e
    rw [List.getElem?_set, if_pos rfl, if_pos (by rw [List.length_append, mI_len]; show 31 < 32 + n + 1; omega), mI_get (by omega), if_neg (by omega), if_pos rfl]
  · rw [gs_ne (fun z => e z.symm)]
    rcases Nat.lt_trichotomy a (32 + n) with z | z | z
    · rw [List.getElem?_append_left (by rw [mI_len]; exact z), mI_get z, mI_get (by omega)]
      by_cases e2 : a < 31
      · rw [if_pos e2, if_pos e2]
      · rw [if_neg e2, if_neg e2, if_neg e, if_neg e]
    · subst z
      rw [List.getElem?_append_right (by rw [mI_len]; omega), mI_len, Nat.sub_self, mI_get (by omega), if_neg (by omega), if_neg (by omega)]; rfl
    · rw [mI_none (by omega), List.getElem?_eq_none (by rw [List.length_append, mI_len]; show 32 + n + 1 ≤ a; omega)]
theorem w_ninit {sc : pm_Sc} {pc : Nat} {lv : pm_L} {kn : Nat × Nat} {cs0 : List pm_C} {Q : (Option Value ⊕ Nat) → pm_H → Prop} {at' : ArrayType} {t len n k j lk len2 : Nat} {m : Int32} (ha : pm_at 72 pc = some (.newarray at', len, [t])) (hb : pm_at 72 (pc + 2) = some (.putfield j, len2, [8, k, lk])) (hn : ((at' = .int ∧ t = 0) ∨ (at' = .long ∧ t = 1) ∨ (at' = .boolean ∧ t = 2)) ∧ ¬ m < 0 ∧ m.toNatClampNeg ≤ 1000) (ht : m_tag (32 + n) = t ∧ m.toNatClampNeg = m_len (32 + n)) (hk : k < 46) (hs : ¬ (k = 0 ∨ k = 1 ∨ k = 2 ∨ k = 17 ∨ k = 29)) (hm : ma k = 32 + n) (hf : pm_fit (pm_ty 8 k) (.ref (32 + n)) = true) (kk : pw sc 72 (pc + 5, lv, [], (mI cs0 (n + 1), kI kn (n + 1))) Q) : pw sc 72 (pc, lv, [.int m, .ref 31], (mI cs0 n, kI kn n)) Q := by
  refine w_newarray ha hn ?_
  show pw sc 72 (pc + 2, lv, [.ref (mI cs0 n).length, .ref 31], (mI cs0 n ++ [_], _, _)) Q
  rw [mI_len, rep_m, ht.2, ← ht.1]
  show pw sc 72 (pc + 2, lv, [.ref (32 + n), .ref 31], (mI cs0 n ++ [zc (32 + n)], kI kn (n + 1))) Q
  refine w_putfield (fs := fsN n) hb ?_ (by unfold fsN; rw [List.length_map, List.length_range]; exact hk) hf ?_
  · show (mI cs0 n ++ [zc (32 + n)])[31]? = _
    rw [List.getElem?_append_left (by rw [mI_len]; omega), mI_get (by omega), if_neg (by omega), if_pos rfl]
  · show pw sc 72 (pc + 2 + 3, lv, [], ((mI cs0 n ++ [zc (32 + n)]).set 31 (.inr (8, (fsN n).set k (.ref (32 + n)))), kI kn (n + 1))) Q
    rw [mI_step hk hs hm]; exact kk
theorem zc_m : ∀ a, 32 ≤ a → a ≤ 72 → zc a = mcell z0S a := fun a h1 h2 => by
  unfold zc mcell
  rw [if_neg (by omega)]
  by_cases t : m_tag a = 1
  · rw [if_pos t, t]; rfl
  · rw [if_neg t]
    have : pm_dv (m_tag a) = .int 0 := by
      unfold m_tag at t ⊢
      split
      · rename_i z; rw [if_pos z] at t; exact absurd rfl t
      · split <;> rfl
    rw [this]; rfl
theorem mI_m {cs0 : List pm_C} : mI cs0 41 = mset (mI cs0 41) z0S := by
  refine mset_ext (by rw [mI_len]; omega) rfl (fun a h1 h2 => ?_) (fun a _ => rfl)
  rw [mI_get (by omega), if_neg (by omega)]
  by_cases e : a = 31
  · subst e
    rw [if_pos rfl]; rfl
  · rw [if_neg e, zc_m a (by omega) h2]
def fil (s : MS) (f n : Nat) : MS := (fun a b => if a = f ∧ b < n then -1 else s.1 a b, s.2)
theorem fil_0 (s : MS) (f : Nat) : fil s f 0 = s := by
  unfold fil
  have : (fun a b => if a = f ∧ b < 0 then (-1 : Int32) else s.1 a b) = s.1 := by
    funext a b; rw [if_neg (by omega)]
  rw [this]
theorem fil_s (s : MS) (f k : Nat) : up (fil s f k) f k (-1) = fil s f (k + 1) := by
  unfold fil up
  dsimp only
  congr 1
  funext a b
  by_cases e : a = f ∧ b = k
  · rw [if_pos e, if_pos ⟨e.1, by omega⟩]
  · rw [if_neg e]
    by_cases e2 : a = f ∧ b < k
    · rw [if_pos e2, if_pos ⟨e2.1, by omega⟩]
    · rw [if_neg e2, if_neg (fun z => e2 ⟨z.1, by have : b ≠ k := fun w => e ⟨z.1, w⟩; omega⟩)]
def s0S (f : Int32) : MS := fil (fil (fil (up z0S 1 0 (fF f)) 13 16) 30 48) 34 4
set_option maxRecDepth 100000 in
set_option maxHeartbeats 2000000 in
theorem l_f13 {sc : pm_Sc} {cs : List pm_C} {s : MS} {kn : Nat × Nat} (hc : 72 < cs.length) {Q : (Option Value ⊕ Nat) → pm_H → Prop} (G : ∀ lv, pm_ld lv 0 = some (.ref 31) → pw sc 72 (371, lv, [], (mset cs (fil s 13 16), kn)) Q) : ∀ (d k : Nat) (lv : pm_L), k + d = 16 → pm_ld lv 0 = some (.ref 31) → pm_ld lv 2 = some (.int (nI k)) → pw sc 72 (352, lv, [], (mset cs (fil s 13 k), kn)) Q := by
  intro d
  induction d with
  | zero =>
    intro k lv hk g0 g2
    obtain rfl : 16 = k := by omega
    refine w_iload_n rfl g2 ?_
    refine w_bipush (v := 16) rfl (by decide) ?_
    refine w_if_icmp_ge rfl rfl (fun c355 => ?_) (fun c355 => ?_)
    · exact G _ g0
    · exact absurd (by decide) c355
  | succ d ih =>
    intro k lv hk g0 g2
    refine w_iload_n rfl g2 ?_
    refine w_bipush (v := 16) rfl (by decide) ?_
    refine w_if_icmp_ge rfl rfl (fun c355 => ?_) (fun c355 => ?_)
    · exact absurd c355 (nI_ge (a := k) (b := 16) (by omega) (by omega))
    · refine w_aload_n rfl g0 ?_
      refine w_getfield rfl (mset_ob hc) rfl ?_
      refine w_iload_n rfl g2 ?_
      refine w_iconst (v := (-1)) rfl (by decide) ?_
      refine w_mis (k := 13) (j := k) rfl hc (by decide) rfl ⟨show k < 16 from by omega, by decide⟩ ?_
      refine w_iincN (j := k) rfl rfl g2 (Nat.le_of_ble_eq_true rfl) ?_
      refine w_goto rfl rfl ?_
      rw [fil_s]
      exact ih (k + 1) _ (by omega) (ld_s1 (by decide) g0 (fun _ => rfl)) ld_self
set_option maxRecDepth 100000 in
set_option maxHeartbeats 2000000 in
theorem l_f30 {sc : pm_Sc} {cs : List pm_C} {s : MS} {kn : Nat × Nat} (hc : 72 < cs.length) {Q : (Option Value ⊕ Nat) → pm_H → Prop} (G : ∀ lv, pm_ld lv 0 = some (.ref 31) → pw sc 72 (392, lv, [], (mset cs (fil s 30 48), kn)) Q) : ∀ (d k : Nat) (lv : pm_L), k + d = 48 → pm_ld lv 0 = some (.ref 31) → pm_ld lv 2 = some (.int (nI k)) → pw sc 72 (373, lv, [], (mset cs (fil s 30 k), kn)) Q := by
  intro d
  induction d with
  | zero =>
    intro k lv hk g0 g2
    obtain rfl : 48 = k := by omega
    refine w_iload_n rfl g2 ?_
    refine w_bipush (v := 48) rfl (by decide) ?_
    refine w_if_icmp_ge rfl rfl (fun c376 => ?_) (fun c376 => ?_)
    · exact G _ g0
    · exact absurd (by decide) c376
  | succ d ih =>
    intro k lv hk g0 g2
    refine w_iload_n rfl g2 ?_
    refine w_bipush (v := 48) rfl (by decide) ?_
    refine w_if_icmp_ge rfl rfl (fun c376 => ?_) (fun c376 => ?_)
    · exact absurd c376 (nI_ge (a := k) (b := 48) (by omega) (by omega))
    · refine w_aload_n rfl g0 ?_
      refine w_getfield rfl (mset_ob hc) rfl ?_
      refine w_iload_n rfl g2 ?_
      refine w_iconst (v := (-1)) rfl (by decide) ?_
      refine w_mis (k := 30) (j := k) rfl hc (by decide) rfl ⟨show k < 48 from by omega, by decide⟩ ?_
      refine w_iincN (j := k) rfl rfl g2 (Nat.le_of_ble_eq_true rfl) ?_
      refine w_goto rfl rfl ?_
      rw [fil_s]
      exact ih (k + 1) _ (by omega) (ld_s1 (by decide) g0 (fun _ => rfl)) ld_self
set_option maxRecDepth 100000 in
set_option maxHeartbeats 2000000 in
theorem l_f34 {sc : pm_Sc} {cs : List pm_C} {s : MS} {kn : Nat × Nat} (hc : 72 < cs.length) {Q : (Option Value ⊕ Nat) → pm_H → Prop} (G : ∀ lv, pm_ld lv 0 = some (.ref 31) → pw sc 72 (412, lv, [], (mset cs (fil s 34 4), kn)) Q) : ∀ (d k : Nat) (lv : pm_L), k + d = 4 → pm_ld lv 0 = some (.ref 31) → pm_ld lv 2 = some (.int (nI k)) → pw sc 72 (394, lv, [], (mset cs (fil s 34 k), kn)) Q := by
  intro d
  induction d with
  | zero =>
    intro k lv hk g0 g2
    obtain rfl : 4 = k := by omega
    refine w_iload_n rfl g2 ?_
    refine w_iconst (v := 4) rfl (by decide) ?_
    refine w_if_icmp_ge rfl rfl (fun c396 => ?_) (fun c396 => ?_)
    · exact G _ g0
    · exact absurd (by decide) c396
  | succ d ih =>
    intro k lv hk g0 g2
    refine w_iload_n rfl g2 ?_
    refine w_iconst (v := 4) rfl (by decide) ?_
    refine w_if_icmp_ge rfl rfl (fun c396 => ?_) (fun c396 => ?_)
    · exact absurd c396 (nI_ge (a := k) (b := 4) (by omega) (by omega))
    · refine w_aload_n rfl g0 ?_
      refine w_getfield rfl (mset_ob hc) rfl ?_
      refine w_iload_n rfl g2 ?_
      refine w_iconst (v := (-1)) rfl (by decide) ?_
      refine w_mis (k := 34) (j := k) rfl hc (by decide) rfl ⟨show k < 4 from by omega, by decide⟩ ?_
      refine w_iincN (j := k) rfl rfl g2 (Nat.le_of_ble_eq_true rfl) ?_
      refine w_goto rfl rfl ?_
      rw [fil_s]
      exact ih (k + 1) _ (by omega) (ld_s1 (by decide) g0 (fun _ => rfl)) ld_self
set_option maxRecDepth 100000 in
set_option maxHeartbeats 2000000 in
theorem c_i8 {sc : pm_Sc} {cs0 : List pm_C} {kn : Nat × Nat} (h31 : cs0.length = 31) (f : Int32) : pu sc 72 [.ref 31, .int f] (cs0 ++ [.inr (8, pm_df 8)], kn) (pz none (mset (mI cs0 41) (s0S f), kI kn 41)) := by
  rw [mI_0 h31]
  have hc : 72 < (mI cs0 41).length := by rw [mI_len]; omega
  refine w_aload_n rfl rfl ?_
  refine w_objinit rfl ⟨(Nat.le_of_ble_eq_true rfl), (Nat.le_of_ble_eq_true rfl)⟩ ?_
  show pw sc 72 (4, _, [], (mI cs0 0, kI kn 0)) _
  refine w_aload_n rfl rfl ?_
  refine w_bipush (v := 12) rfl (by decide) ?_
  refine w_ninit (n := 0) (k := 3) rfl rfl (by decide) (by decide) (by decide) (by decide) rfl rfl ?_
  refine w_aload_n rfl rfl ?_
  refine w_bipush (v := 12) rfl (by decide) ?_
  refine w_ninit (n := 1) (k := 4) rfl rfl (by decide) (by decide) (by decide) (by decide) rfl rfl ?_
  refine w_aload_n rfl rfl ?_
  refine w_bipush (v := 12) rfl (by decide) ?_
  refine w_ninit (n := 2) (k := 5) rfl rfl (by decide) (by decide) (by decide) (by decide) rfl rfl ?_
  refine w_aload_n rfl rfl ?_
  refine w_iconst (v := 4) rfl (by decide) ?_
  refine w_ninit (n := 3) (k := 6) rfl rfl (by decide) (by decide) (by decide) (by decide) rfl rfl ?_
  refine w_aload_n rfl rfl ?_
  refine w_iconst (v := 4) rfl (by decide) ?_
  refine w_ninit (n := 4) (k := 7) rfl rfl (by decide) (by decide) (by decide) (by decide) rfl rfl ?_
  refine w_aload_n rfl rfl ?_
  refine w_iconst (v := 4) rfl (by decide) ?_
  refine w_ninit (n := 5) (k := 8) rfl rfl (by decide) (by decide) (by decide) (by decide) rfl rfl ?_
  refine w_aload_n rfl rfl ?_
  refine w_iconst (v := 4) rfl (by decide) ?_
  refine w_ninit (n := 6) (k := 9) rfl rfl (by decide) (by decide) (by decide) (by decide) rfl rfl ?_
  refine w_aload_n rfl rfl ?_
  refine w_iconst (v := 4) rfl (by decide) ?_
  refine w_ninit (n := 7) (k := 10) rfl rfl (by decide) (by decide) (by decide) (by decide) rfl rfl ?_
  refine w_aload_n rfl rfl ?_
  refine w_iconst (v := 4) rfl (by decide) ?_
  refine w_ninit (n := 8) (k := 11) rfl rfl (by decide) (by decide) (by decide) (by decide) rfl rfl ?_
  refine w_aload_n rfl rfl ?_
  refine w_iconst (v := 4) rfl (by decide) ?_
  refine w_ninit (n := 9) (k := 12) rfl rfl (by decide) (by decide) (by decide) (by decide) rfl rfl ?_
  refine w_aload_n rfl rfl ?_
  refine w_bipush (v := 16) rfl (by decide) ?_
  refine w_ninit (n := 10) (k := 13) rfl rfl (by decide) (by decide) (by decide) (by decide) rfl rfl ?_
  refine w_aload_n rfl rfl ?_
  refine w_bipush (v := 16) rfl (by decide) ?_
  refine w_ninit (n := 11) (k := 14) rfl rfl (by decide) (by decide) (by decide) (by decide) rfl rfl ?_
  refine w_aload_n rfl rfl ?_
  refine w_bipush (v := 16) rfl (by decide) ?_
  refine w_ninit (n := 12) (k := 15) rfl rfl (by decide) (by decide) (by decide) (by decide) rfl rfl ?_
  refine w_aload_n rfl rfl ?_
  refine w_bipush (v := 16) rfl (by decide) ?_
  refine w_ninit (n := 13) (k := 16) rfl rfl (by decide) (by decide) (by decide) (by decide) rfl rfl ?_
  refine w_aload_n rfl rfl ?_
  refine w_sipush (v := 600) rfl (by decide) ?_
  refine w_ninit (n := 14) (k := 18) rfl rfl (by decide) (by decide) (by decide) (by decide) rfl rfl ?_
  refine w_aload_n rfl rfl ?_
  refine w_sipush (v := 600) rfl (by decide) ?_
  refine w_ninit (n := 15) (k := 19) rfl rfl (by decide) (by decide) (by decide) (by decide) rfl rfl ?_
  refine w_aload_n rfl rfl ?_
  refine w_sipush (v := 600) rfl (by decide) ?_
  refine w_ninit (n := 16) (k := 20) rfl rfl (by decide) (by decide) (by decide) (by decide) rfl rfl ?_
  refine w_aload_n rfl rfl ?_
  refine w_sipush (v := 600) rfl (by decide) ?_
  refine w_ninit (n := 17) (k := 21) rfl rfl (by decide) (by decide) (by decide) (by decide) rfl rfl ?_
  refine w_aload_n rfl rfl ?_
  refine w_sipush (v := 600) rfl (by decide) ?_
  refine w_ninit (n := 18) (k := 22) rfl rfl (by decide) (by decide) (by decide) (by decide) rfl rfl ?_
  refine w_aload_n rfl rfl ?_
  refine w_sipush (v := 600) rfl (by decide) ?_
  refine w_ninit (n := 19) (k := 23) rfl rfl (by decide) (by decide) (by decide) (by decide) rfl rfl ?_
  refine w_aload_n rfl rfl ?_
  refine w_sipush (v := 600) rfl (by decide) ?_
  refine w_ninit (n := 20) (k := 24) rfl rfl (by decide) (by decide) (by decide) (by decide) rfl rfl ?_
  refine w_aload_n rfl rfl ?_
  refine w_sipush (v := 600) rfl (by decide) ?_
  refine w_ninit (n := 21) (k := 25) rfl rfl (by decide) (by decide) (by decide) (by decide) rfl rfl ?_
  refine w_aload_n rfl rfl ?_
  refine w_sipush (v := 600) rfl (by decide) ?_
  refine w_ninit (n := 22) (k := 26) rfl rfl (by decide) (by decide) (by decide) (by decide) rfl rfl ?_
  refine w_aload_n rfl rfl ?_
  refine w_sipush (v := 600) rfl (by decide) ?_
  refine w_ninit (n := 23) (k := 27) rfl rfl (by decide) (by decide) (by decide) (by decide) rfl rfl ?_
  refine w_aload_n rfl rfl ?_
  refine w_sipush (v := 600) rfl (by decide) ?_
  refine w_ninit (n := 24) (k := 28) rfl rfl (by decide) (by decide) (by decide) (by decide) rfl rfl ?_
  refine w_aload_n rfl rfl ?_
  refine w_bipush (v := 48) rfl (by decide) ?_
  refine w_ninit (n := 25) (k := 30) rfl rfl (by decide) (by decide) (by decide) (by decide) rfl rfl ?_
  refine w_aload_n rfl rfl ?_
  refine w_bipush (v := 48) rfl (by decide) ?_
  refine w_ninit (n := 26) (k := 31) rfl rfl (by decide) (by decide) (by decide) (by decide) rfl rfl ?_
  refine w_aload_n rfl rfl ?_
  refine w_bipush (v := 48) rfl (by decide) ?_
  refine w_ninit (n := 27) (k := 32) rfl rfl (by decide) (by decide) (by decide) (by decide) rfl rfl ?_
  refine w_aload_n rfl rfl ?_
  refine w_bipush (v := 48) rfl (by decide) ?_
  refine w_ninit (n := 28) (k := 33) rfl rfl (by decide) (by decide) (by decide) (by decide) rfl rfl ?_
  refine w_aload_n rfl rfl ?_
  refine w_iconst (v := 4) rfl (by decide) ?_
  refine w_ninit (n := 29) (k := 34) rfl rfl (by decide) (by decide) (by decide) (by decide) rfl rfl ?_
  refine w_aload_n rfl rfl ?_
  refine w_iconst (v := 4) rfl (by decide) ?_
  refine w_ninit (n := 30) (k := 35) rfl rfl (by decide) (by decide) (by decide) (by decide) rfl rfl ?_
  refine w_aload_n rfl rfl ?_
  refine w_iconst (v := 4) rfl (by decide) ?_
  refine w_ninit (n := 31) (k := 36) rfl rfl (by decide) (by decide) (by decide) (by decide) rfl rfl ?_
  refine w_aload_n rfl rfl ?_
  refine w_bipush (v := 12) rfl (by decide) ?_
  refine w_ninit (n := 32) (k := 37) rfl rfl (by decide) (by decide) (by decide) (by decide) rfl rfl ?_
  refine w_aload_n rfl rfl ?_
  refine w_bipush (v := 12) rfl (by decide) ?_
  refine w_ninit (n := 33) (k := 38) rfl rfl (by decide) (by decide) (by decide) (by decide) rfl rfl ?_
  refine w_aload_n rfl rfl ?_
  refine w_bipush (v := 12) rfl (by decide) ?_
  refine w_ninit (n := 34) (k := 39) rfl rfl (by decide) (by decide) (by decide) (by decide) rfl rfl ?_
  refine w_aload_n rfl rfl ?_
  refine w_bipush (v := 12) rfl (by decide) ?_
  refine w_ninit (n := 35) (k := 40) rfl rfl (by decide) (by decide) (by decide) (by decide) rfl rfl ?_
  refine w_aload_n rfl rfl ?_
  refine w_bipush (v := 12) rfl (by decide) ?_
  refine w_ninit (n := 36) (k := 41) rfl rfl (by decide) (by decide) (by decide) (by decide) rfl rfl ?_
  refine w_aload_n rfl rfl ?_
  refine w_bipush (v := 12) rfl (by decide) ?_
  refine w_ninit (n := 37) (k := 42) rfl rfl (by decide) (by decide) (by decide) (by decide) rfl rfl ?_
  refine w_aload_n rfl rfl ?_
  refine w_bipush (v := 12) rfl (by decide) ?_
  refine w_ninit (n := 38) (k := 43) rfl rfl (by decide) (by decide) (by decide) (by decide) rfl rfl ?_
  refine w_aload_n rfl rfl ?_
  refine w_bipush (v := 12) rfl (by decide) ?_
  refine w_ninit (n := 39) (k := 44) rfl rfl (by decide) (by decide) (by decide) (by decide) rfl rfl ?_
  refine w_aload_n rfl rfl ?_
  refine w_iconst (v := 4) rfl (by decide) ?_
  refine w_ninit (n := 40) (k := 45) rfl rfl (by decide) (by decide) (by decide) (by decide) rfl rfl ?_
  show pw sc 72 (332, lv_args 0 [.ref 31, .int f], [], (mI cs0 41, kI kn 41)) _
  rw [mI_m]
  have key : pw sc 72 (347, lv_args 0 [.ref 31, .int f], [.int (fF f), .ref 31], (mset (mI cs0 41) z0S, kI kn 41)) (pz none (mset (mI cs0 41) (s0S f), kI kn 41)) := by
    refine w_mps rfl hc (by decide) rfl ?_
    refine w_iconst (v := 0) rfl (by decide) ?_
    refine w_istore_n rfl (Nat.le_of_ble_eq_true rfl) ?_
    rw [← fil_0 (up z0S 1 0 (fF f)) 13]
    refine l_f13 hc (fun lv g0 => ?_) 16 0 _ (by omega) rfl rfl
    refine w_iconst (v := 0) rfl (by decide) ?_
    refine w_istore_n rfl (Nat.le_of_ble_eq_true rfl) ?_
    rw [← fil_0 (fil (up z0S 1 0 (fF f)) 13 16) 30]
    refine l_f30 hc (fun lv g0 => ?_) 48 0 _ (by omega) (ld_s1 (by decide) g0 (fun _ => rfl)) ld_self
    refine w_iconst (v := 0) rfl (by decide) ?_
    refine w_istore_n rfl (Nat.le_of_ble_eq_true rfl) ?_
    rw [← fil_0 (fil (fil (up z0S 1 0 (fF f)) 13 16) 30 48) 34]
    refine l_f34 hc (fun lv g0 => ?_) 4 0 _ (by omega) (ld_s1 (by decide) g0 (fun _ => rfl)) ld_self
    exact w_return rfl rfl ⟨rfl, rfl⟩
  refine w_aload_n rfl rfl ?_
  refine w_iload_n rfl rfl ?_
  refine w_ifCond_lt rfl rfl (fun c => ?_) (fun c => ?_)
  · refine w_iconst (v := -1) rfl (by decide) ?_
    have e : fF f = -1 := if_neg (fun z => z.1 c)
    rw [e] at key
    exact key
  · refine w_iload_n rfl rfl ?_
    refine w_iconst (v := 3) rfl (by decide) ?_
    refine w_if_icmp_gt rfl rfl (fun c2 => ?_) (fun c2 => ?_)
    · refine w_iconst (v := -1) rfl (by decide) ?_
      have e : fF f = -1 := if_neg (fun z => b3.mp z.2 c2)
      rw [e] at key
      exact key
    · refine w_iload_n rfl rfl ?_
      refine w_goto rfl rfl ?_
      have e : fF f = f := if_pos ⟨c, b3.mpr c2⟩
      rw [e] at key
      exact key
