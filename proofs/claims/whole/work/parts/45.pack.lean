-- deps: 32.m1
/-! packed rows: digits of sixteen -/
def dg (a k : Nat) : Nat := a / 16 ^ k % 16
theorem l_and (a b : Nat) : lN a &&& lN b = lN (a &&& b) := by
  apply Int64.toBitVec_inj.1
  show BitVec.ofNat 64 a &&& BitVec.ofNat 64 b = BitVec.ofNat 64 (a &&& b)
  apply BitVec.eq_of_getLsbD_eq
  intro i hi
  simp [hi]
theorem l_or (a b : Nat) : lN a ||| lN b = lN (a ||| b) := by
  apply Int64.toBitVec_inj.1
  show BitVec.ofNat 64 a ||| BitVec.ofNat 64 b = BitVec.ofNat 64 (a ||| b)
  apply BitVec.eq_of_getLsbD_eq
  intro i hi
  simp [hi]
theorem l_sh : ∀ k, k < 16 → (((4 * nI k).toInt64 &&& 63).toBitVec.smod 64).toNat = 4 * k := by decide +kernel
theorem l_m1 : ∀ n, n < 16 → (1 <<< ((4 * nI n).toInt64 &&& 63)) - 1 = lN (2 ^ (4 * n) - 1) := by decide +kernel
theorem l_q : ∀ n, n < 12 → ∀ q, q < 16 → (nI q).toInt64 <<< ((4 * nI n).toInt64 &&& 63) = lN (q * 2 ^ (4 * n)) := by decide +kernel
theorem l_lo : ∀ c, c < 16 → (lN c).toInt32 = nI c := by decide +kernel
theorem l_tn {a : Nat} (h : a < 2 ^ 64) : (lN a).toBitVec.toNat = a := by
  show (BitVec.ofNat 64 a).toNat = a
  rw [BitVec.toNat_ofNat, Nat.mod_eq_of_lt h]
theorem l_shr {a k : Nat} (ha : a < 2 ^ 63) (hk : k < 16) : lN a >>> ((4 * nI k).toInt64 &&& 63) = lN (a / 2 ^ (4 * k)) := by
  apply Int64.toBitVec_inj.1
  rw [Int64.toBitVec_shiftRight]
  show (lN a).toBitVec.sshiftRight (((4 * nI k).toInt64 &&& 63).toBitVec.smod 64).toNat = _
  rw [l_sh k hk]
  apply BitVec.eq_of_toInt_eq
  rw [BitVec.toInt_sshiftRight]
  have h1 : (lN a).toBitVec.toInt = (a : Int) := by
    rw [BitVec.toInt_eq_toNat_of_lt]
    · rw [l_tn (by omega)]
    · rw [l_tn (by omega)]; omega
  have h3 : a / 2 ^ (4 * k) ≤ a := Nat.div_le_self _ _
  have h2 : (lN (a / 2 ^ (4 * k))).toBitVec.toInt = ((a / 2 ^ (4 * k) : Nat) : Int) := by
    rw [BitVec.toInt_eq_toNat_of_lt]
    · rw [l_tn (by omega)]
    · rw [l_tn (by omega)]; omega
  rw [h1, h2, Int.shiftRight_eq_div_pow]
  simp
theorem p16 (k : Nat) : (2 : Nat) ^ (4 * k) = 16 ^ k := by rw [Nat.pow_mul]
theorem at_l {a k : Nat} (ha : a < 2 ^ 63) (hk : k < 16) : m_at (lN a) (nI k) = nI (dg a k) := by
  unfold m_at dg
  rw [l_shr ha hk, show (15 : Int64) = lN 15 from rfl, l_and, show (15 : Nat) = 2 ^ 4 - 1 from rfl, Nat.and_two_pow_sub_one_eq_mod, p16]
  exact l_lo _ (Nat.mod_lt _ (by decide))
theorem begin_l {a n : Nat} (hn : n < 16) : m_begin (lN a) (nI n) = lN (a % 16 ^ n) := by
  unfold m_begin
  rw [l_m1 n hn, l_and, Nat.and_two_pow_sub_one_eq_mod, p16]
theorem with_l {a n q : Nat} (hn : n < 12) (hq : q < 16) : m_with (lN a) (nI n) (nI q) = lN (a % 16 ^ n + q * 16 ^ n) := by
  unfold m_with
  rw [l_m1 n (by omega), l_and, Nat.and_two_pow_sub_one_eq_mod, l_q n hn q hq, l_or]
  congr 1
  rw [Nat.or_comm, Nat.mul_comm q, ← Nat.two_pow_add_eq_or_of_lt (Nat.mod_lt _ (Nat.two_pow_pos _)), p16]
  rw [Nat.mul_comm, Nat.add_comm]
theorem dg_lt (a k : Nat) : dg a k < 16 := Nat.mod_lt _ (by decide)
theorem dg_mod {a n k : Nat} (hk : k < n) : dg (a % 16 ^ n) k = dg a k := by
  unfold dg
  have h : 16 ^ n = 16 ^ k * 16 ^ (n - k) := by rw [← Nat.pow_add]; congr 1; omega
  rw [h, Nat.mod_mul_right_div_self]
  have h2 : 16 ^ (n - k) = 16 * 16 ^ (n - k - 1) := by rw [← Nat.pow_succ']; congr 1; omega
  rw [h2, Nat.mod_mul_right_mod]
theorem dg_add {a n q k : Nat} (ha : a < 16 ^ n) (hq : q < 16) : dg (a + q * 16 ^ n) k = if k < n then dg a k else if k = n then q else 0 := by
  by_cases h : k < n
  · rw [if_pos h, ← dg_mod (a := a + q * 16 ^ n) h, Nat.add_mul_mod_self_right, dg_mod h]
  · rw [if_neg h]
    by_cases e : k = n
    · subst e
      rw [if_pos rfl]
      unfold dg
      rw [Nat.add_mul_div_right _ _ (Nat.pow_pos (by decide)), Nat.div_eq_of_lt ha, Nat.zero_add, Nat.mod_eq_of_lt hq]
    · rw [if_neg e]
      unfold dg
      have h3 : a + q * 16 ^ n < 16 ^ (n + 1) := by
        rw [Nat.pow_succ]
        have : q * 16 ^ n ≤ 15 * 16 ^ n := Nat.mul_le_mul_right _ (by omega)
        omega
      have h4 : 16 ^ (n + 1) ≤ 16 ^ k := Nat.pow_le_pow_right (by decide) (by omega)
      rw [Nat.div_eq_of_lt (by omega)]
theorem dg_ext : ∀ {n a b : Nat}, a < 16 ^ n → b < 16 ^ n → (∀ k, k < n → dg a k = dg b k) → a = b
  | 0, a, b, ha, hb, _ => by simp at ha hb; omega
  | n + 1, a, b, ha, hb, h => by
    have h1 : a % 16 ^ n = b % 16 ^ n := dg_ext (n := n) (Nat.mod_lt _ (Nat.pow_pos (by decide))) (Nat.mod_lt _ (Nat.pow_pos (by decide))) (fun k hk => by rw [dg_mod hk, dg_mod hk]; exact h k (by omega))
    have h2 := h n (by omega)
    unfold dg at h2
    have ha2 : a / 16 ^ n < 16 := by rw [Nat.div_lt_iff_lt_mul (Nat.pow_pos (by decide))]; rw [Nat.pow_succ] at ha; omega
    have hb2 : b / 16 ^ n < 16 := by rw [Nat.div_lt_iff_lt_mul (Nat.pow_pos (by decide))]; rw [Nat.pow_succ] at hb; omega
    rw [Nat.mod_eq_of_lt ha2, Nat.mod_eq_of_lt hb2] at h2
    rw [← Nat.div_add_mod a (16 ^ n), ← Nat.div_add_mod b (16 ^ n), h1, h2]
theorem lt_add16 {a n q : Nat} (ha : a < 16 ^ n) (hq : q < 16) : a + q * 16 ^ n < 16 ^ (n + 1) := by
  rw [Nat.pow_succ]
  have : q * 16 ^ n ≤ 15 * 16 ^ n := Nat.mul_le_mul_right _ (by omega)
  omega
theorem p63 {n : Nat} (hn : n ≤ 12) : 16 ^ n < 2 ^ 63 := Nat.lt_of_le_of_lt (Nat.pow_le_pow_right (by decide) hn) (by decide)
/-- the pigeonhole: a row of different numbers below c has at most c places -/
theorem pigeon : ∀ (n c : Nat) (f : Nat → Nat), (∀ k, k < n → f k < c) → (∀ i j, i < j → j < n → f i ≠ f j) → n ≤ c
  | 0, c, f, _, _ => Nat.zero_le c
  | n + 1, c, f, h1, h2 => by
    -- the last value is taken out
    have hc : 0 < c := Nat.lt_of_le_of_lt (Nat.zero_le _) (h1 0 (by omega))
    have h := pigeon n (c - 1) (fun k => if f k < f n then f k else f k - 1) (fun k hk => by
        have a1 := h1 k (by omega)
        have a2 := h1 n (by omega)
        have a3 := h2 k n hk (by omega)
        split <;> omega) (fun i j hij hj => by
        have a1 := h2 i j hij (by omega)
        have a2 := h2 i n (by omega) (by omega)
        have a3 := h2 j n hj (by omega)
        split <;> split <;> omega)
    omega
