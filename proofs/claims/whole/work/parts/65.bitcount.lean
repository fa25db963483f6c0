/-! how many bits are set -/
theorem zb_ushr {s r : Nat} (hs : s < 2147483648) (hr : r < 31) : ((Int32.ofInt (s : Int)).toUInt32 >>> ((Int32.ofInt (r : Int)).toUInt32 &&& Int32.toUInt32 31)).toInt32 = Int32.ofInt ((s >>> r : Nat) : Int) := by
  have h1 : (Int32.ofInt (s : Int)).toUInt32 = UInt32.ofNat s := rfl
  have h2 : ∀ r : Nat, r < 31 → ((Int32.ofInt (r : Int)).toUInt32 &&& Int32.toUInt32 31) = UInt32.ofNat r := by decide +kernel
  rw [h1, h2 r hr]
  have h3 : UInt32.ofNat s >>> UInt32.ofNat r = UInt32.ofNat (s >>> r) := by
    apply UInt32.toNat_inj.mp
    rw [UInt32.toNat_shiftRight]
    have e1 : (UInt32.ofNat s).toNat = s := by
      rw [UInt32.toNat_ofNat']; exact Nat.mod_eq_of_lt (by omega)
    have e2 : (UInt32.ofNat r).toNat = r := by
      rw [UInt32.toNat_ofNat']; exact Nat.mod_eq_of_lt (by omega)
    have e3 : (UInt32.ofNat (s >>> r)).toNat = s >>> r := by
      rw [UInt32.toNat_ofNat']
      exact Nat.mod_eq_of_lt (Nat.lt_of_le_of_lt (Nat.shiftRight_le s r) (by omega))
    rw [e1, e2, e3, Nat.mod_eq_of_lt (by omega)]
  rw [h3]
  rfl
def zb_p1 (x : Nat) : Nat := x - (x >>> 1 &&& 1431655765)
def zb_p2 (x : Nat) : Nat := (x &&& 858993459) + (x >>> 2 &&& 858993459)
def zb_p3 (x : Nat) : Nat := (x + x >>> 4) &&& 252645135
def zb_p4 (x : Nat) : Nat := x + x >>> 8
def zb_p5 (x : Nat) : Nat := x + x >>> 16
def zb_ck : Nat → Nat → Nat → Bool
  | 0, x, c => Nat.ble (x >>> 1 &&& 1431655765) x && Nat.beq ((zb_p5 (zb_p4 (zb_p3 (zb_p2 (zb_p1 x))))) &&& 63) c
  | d + 1, x, c => zb_ck d (2 * x) c && zb_ck d (2 * x + 1) (c + 1)
theorem zb_ck_all : zb_ck 16 0 0 = true := by decide +kernel
def zb_cn (q : Nat → Bool) : Nat → Nat
  | 0 => 0
  | d + 1 => zb_cn q d + (if q d then 1 else 0)
def zb_t (x c : Nat) : Prop := (x >>> 1 &&& 1431655765) ≤ x ∧ (zb_p5 (zb_p4 (zb_p3 (zb_p2 (zb_p1 x))))) &&& 63 = c
theorem zs_mk_add (p : Nat → Bool) (i : Nat) : zs_mk p (i + 1) = zs_mk p i + (if p i then 2 ^ i else 0) := by
  rw [zs_mk_s]
  split
  · have := zs_mk_lt p i
    rw [Nat.or_comm, show 2 ^ i = 2 ^ i * 1 by omega, ← Nat.two_pow_add_eq_or_of_lt this]
    omega
  · rfl
theorem zb_ck_q : ∀ (d x c : Nat), zb_ck d x c = true → ∀ q : Nat → Bool, zb_t (x * 2 ^ d + zs_mk q d) (c + zb_cn q d)
  | 0, x, c, h, q => by
    have h : (Nat.ble (x >>> 1 &&& 1431655765) x && Nat.beq ((zb_p5 (zb_p4 (zb_p3 (zb_p2 (zb_p1 x))))) &&& 63) c) = true := h
    rw [Bool.and_eq_true] at h
    have e : x * 2 ^ 0 + zs_mk q 0 = x := by
      show x * 1 + 0 = x
      omega
    rw [e]
    exact ⟨Nat.le_of_ble_eq_true h.1, Nat.eq_of_beq_eq_true h.2⟩
  | d + 1, x, c, h, q => by
    have h : (zb_ck d (2 * x) c && zb_ck d (2 * x + 1) (c + 1)) = true := h
    rw [Bool.and_eq_true] at h
    have hp : x * 2 ^ (d + 1) = 2 * x * 2 ^ d := by
      rw [Nat.pow_succ, Nat.mul_comm 2 x, Nat.mul_assoc, Nat.mul_comm (2 ^ d) 2]
    have e : zb_cn q (d + 1) = zb_cn q d + (if q d then 1 else 0) := rfl
    rw [zs_mk_add, hp, e]
    by_cases hq : q d = true
    · rw [if_pos hq, if_pos hq]
      have := zb_ck_q d (2 * x + 1) (c + 1) h.2 q
      rw [show 2 * x * 2 ^ d + (zs_mk q d + 2 ^ d) = (2 * x + 1) * 2 ^ d + zs_mk q d by rw [Nat.add_mul]; omega, show c + (zb_cn q d + 1) = c + 1 + zb_cn q d by omega]
      exact this
    · rw [if_neg hq, if_neg hq]
      exact zb_ck_q d (2 * x) c h.1 q
theorem zs_mk_16 (p : Nat → Bool) {n : Nat} (hn : n ≤ 16) : zs_mk p n = zs_mk (fun r => decide (r < n) && p r) 16 := by
  apply Nat.eq_of_testBit_eq
  intro i
  rw [zs_mk_bit, zs_mk_bit]
  by_cases h : i < n
  · rw [decide_eq_true h, decide_eq_true (show i < 16 by omega)]
    simp
  · rw [decide_eq_false h]
    simp
theorem zb_cn_16 (p : Nat → Bool) (n : Nat) : ∀ m, n ≤ m → zb_cn (fun r => decide (r < n) && p r) m = zb_cn p n := by
  have h0 : ∀ m, m ≤ n → zb_cn (fun r => decide (r < n) && p r) m = zb_cn p m := by
    intro m
    induction m with
    | zero => intro _; rfl
    | succ m ih =>
      intro h
      show zb_cn _ m + (if (decide (m < n) && p m) = true then 1 else 0) = zb_cn p m + (if p m = true then 1 else 0)
      rw [ih (by omega), decide_eq_true (show m < n by omega), Bool.true_and]
  intro m hm
  induction m with
  | zero =>
    have : n = 0 := by omega
    subst this
    rfl
  | succ m ih =>
    by_cases e : n = m + 1
    · subst e
      exact h0 _ (Nat.le_refl _)
    · show zb_cn _ m + (if (decide (m < n) && p m) = true then 1 else 0) = zb_cn p n
      rw [ih (by omega), decide_eq_false (show ¬ m < n by omega)]
      simp
/-- the bits of a set of rows, counted -/
theorem zb_pc (p : Nat → Bool) {n : Nat} (hn : n ≤ 16) : zb_t (zs_mk p n) (zb_cn p n) := by
  have h := zb_ck_q 16 0 0 zb_ck_all (fun r => decide (r < n) && p r)
  rw [zb_cn_16 p n 16 hn, ← zs_mk_16 p hn, Nat.zero_mul, Nat.zero_add, Nat.zero_add] at h
  exact h
theorem zb_cn_le (p : Nat → Bool) : ∀ n, zb_cn p n ≤ n
  | 0 => Nat.le_refl 0
  | n + 1 => by
    have := zb_cn_le p n
    show zb_cn p n + (if p n = true then 1 else 0) ≤ n + 1
    split <;> omega
/-- rows of weight 0, and rows of weight above 0 -/
theorem zb_cn_w {w : Nat → Int} : ∀ {n : Nat}, (∀ r, r < n → 0 ≤ w r) → zs_sum (fun r => if w r = 0 then 1 else 0) n = (n : Int) - (zb_cn (fun r => decide (0 < w r)) n : Int)
  | 0, _ => rfl
  | n + 1, h => by
    have := zb_cn_w (w := w) (n := n) (fun r hr => h r (by omega))
    have h0 := h n (by omega)
    rw [zs_sum_s, this]
    show _ = _ - ((zb_cn (fun r => decide (0 < w r)) n + (if decide (0 < w n) = true then 1 else 0) : Nat) : Int)
    by_cases q : w n = 0
    · rw [if_pos q, if_neg (by simp; omega)]
      omega
    · rw [if_neg q, if_pos (by simp; omega)]
      omega

