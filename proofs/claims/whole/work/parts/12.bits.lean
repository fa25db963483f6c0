/-! Pure rows: sets of rows as numbers; sums -/
theorem zb_or (a b : Nat) : Int32.ofInt (a : Int) ||| Int32.ofInt (b : Int) = Int32.ofInt ((a ||| b : Nat) : Int) := by
  apply Int32.toBitVec_inj.1
  show BitVec.ofInt 32 (a : Int) ||| BitVec.ofInt 32 (b : Int) = BitVec.ofInt 32 ((a ||| b : Nat) : Int)
  simp only [BitVec.ofInt_natCast, BitVec.ofNat_or]
theorem zb_and (a b : Nat) : Int32.ofInt (a : Int) &&& Int32.ofInt (b : Int) = Int32.ofInt ((a &&& b : Nat) : Int) := by
  apply Int32.toBitVec_inj.1
  show BitVec.ofInt 32 (a : Int) &&& BitVec.ofInt 32 (b : Int) = BitVec.ofInt 32 ((a &&& b : Nat) : Int)
  simp only [BitVec.ofInt_natCast, BitVec.ofNat_and]
theorem zb_xor (a b : Nat) : Int32.ofInt (a : Int) ^^^ Int32.ofInt (b : Int) = Int32.ofInt ((a ^^^ b : Nat) : Int) := by
  apply Int32.toBitVec_inj.1
  show BitVec.ofInt 32 (a : Int) ^^^ BitVec.ofInt 32 (b : Int) = BitVec.ofInt 32 ((a ^^^ b : Nat) : Int)
  simp only [BitVec.ofInt_natCast, BitVec.ofNat_xor]
/-- the rows of a that are not in b -/
def zb_df (a b : Nat) : Nat := a ^^^ (a &&& b)
theorem zb_df_bit (a b i : Nat) : (zb_df a b).testBit i = (a.testBit i && !b.testBit i) := by
  unfold zb_df
  rw [Nat.testBit_xor, Nat.testBit_and]
  cases a.testBit i <;> cases b.testBit i <;> rfl
theorem zb_andnot (a b : Nat) : Int32.ofInt (a : Int) &&& (Int32.ofInt (b : Int) ^^^ Int32.ofInt (-1)) = Int32.ofInt ((zb_df a b : Nat) : Int) := by
  unfold zb_df
  rw [← zb_xor, ← zb_and]
  generalize Int32.ofInt (a : Int) = x
  generalize Int32.ofInt (b : Int) = y
  apply Int32.toBitVec_inj.1
  show x.toBitVec &&& (y.toBitVec ^^^ BitVec.ofInt 32 (-1)) = x.toBitVec ^^^ (x.toBitVec &&& y.toBitVec)
  generalize x.toBitVec = u
  generalize y.toBitVec = v
  have hm : (BitVec.ofInt 32 (-1)) = BitVec.allOnes 32 := by decide
  rw [hm]
  apply BitVec.eq_of_getLsbD_eq
  intro i hi
  simp only [BitVec.getLsbD_and, BitVec.getLsbD_xor, BitVec.getLsbD_allOnes, hi, decide_true]
  cases u.getLsbD i <;> cases v.getLsbD i <;> rfl
theorem zb_shl : ∀ r : Nat, r < 31 → Int32.ofInt 1 <<< (Int32.ofInt (r : Int) &&& 31) = Int32.ofInt ((2 ^ r : Nat) : Int) := by decide +kernel
theorem zb_am : ∀ r : Nat, r < 31 → ((Int32.ofInt (r : Int) &&& 31).toBitVec.smod 32).toNat = r := by decide +kernel
theorem zb_shr {s r : Nat} (hs : s < 2147483648) (hr : r < 31) : Int32.ofInt (s : Int) >>> (Int32.ofInt (r : Int) &&& 31) = Int32.ofInt ((s >>> r : Nat) : Int) := by
  apply Int32.toBitVec_inj.1
  rw [Int32.toBitVec_shiftRight]
  show (BitVec.ofInt 32 (s : Int)).sshiftRight' _ = BitVec.ofInt 32 ((s >>> r : Nat) : Int)
  rw [BitVec.sshiftRight_eq', zb_am r hr, BitVec.ofInt_natCast, BitVec.ofInt_natCast]
  have hm : (BitVec.ofNat 32 s).msb = false := by
    rw [BitVec.msb_eq_false_iff_two_mul_lt, BitVec.toNat_ofNat, Nat.mod_eq_of_lt (by omega)]
    omega
  rw [BitVec.sshiftRight_eq_of_msb_false hm]
  apply BitVec.eq_of_toNat_eq
  rw [BitVec.toNat_ushiftRight, BitVec.toNat_ofNat, BitVec.toNat_ofNat, Nat.mod_eq_of_lt (by omega), Nat.mod_eq_of_lt]
  exact Nat.lt_of_le_of_lt (by rw [Nat.shiftRight_eq_div_pow]; exact Nat.div_le_self _ _) (show s < 2 ^ 32 by omega)
theorem zb_bit {s r : Nat} (hs : s < 2147483648) (hr : r < 31) : (Int32.ofInt (s : Int) >>> (Int32.ofInt (r : Int) &&& 31)) &&& Int32.ofInt 1 = Int32.ofInt (if s.testBit r then 1 else 0) := by
  rw [zb_shr hs hr]
  have h : Int32.ofInt ((s >>> r : Nat) : Int) &&& Int32.ofInt ((1 : Nat) : Int) = Int32.ofInt (((s >>> r) &&& 1 : Nat) : Int) := zb_and _ _
  refine h.trans ?_
  congr 1
  rw [Nat.and_one_is_mod, Nat.testBit_eq_decide_div_mod_eq, Nat.shiftRight_eq_div_pow]
  by_cases q : s / 2 ^ r % 2 = 1
  · simp [q]
  · have q0 : s / 2 ^ r % 2 = 0 := by omega
    simp [q0]
/-- the rows below n with p -/
def zs_mk (p : Nat → Bool) : Nat → Nat
  | 0 => 0
  | n + 1 => if p n then zs_mk p n ||| 2 ^ n else zs_mk p n
theorem zs_mk_bit (p : Nat → Bool) : ∀ (n i : Nat), (zs_mk p n).testBit i = (decide (i < n) && p i)
  | 0, i => by simp [zs_mk]
  | n + 1, i => by
    unfold zs_mk
    have ih := zs_mk_bit p n i
    by_cases h : p n
    · rw [if_pos h, Nat.testBit_or, ih, Nat.testBit_two_pow]
      by_cases e : n = i
      · subst e; simp [h]
      · have : decide (i < n + 1) = decide (i < n) := by congr 1; apply propext; omega
        simp [e, this]
    · rw [if_neg h, ih]
      by_cases e : n = i
      · subst e; simp [h]
      · have : decide (i < n + 1) = decide (i < n) := by congr 1; apply propext; omega
        rw [this]
theorem zs_mk_lt (p : Nat → Bool) (n : Nat) : zs_mk p n < 2 ^ n := by
  apply Nat.lt_pow_two_of_testBit
  intro i hi
  rw [zs_mk_bit]
  simp
  omega
def zs_sum (f : Nat → Int) : Nat → Int
  | 0 => 0
  | n + 1 => zs_sum f n + f n
theorem zs_sum_congr {f g : Nat → Int} : ∀ {n : Nat}, (∀ i, i < n → f i = g i) → zs_sum f n = zs_sum g n
  | 0, _ => rfl
  | n + 1, h => by
    show zs_sum f n + f n = zs_sum g n + g n
    rw [zs_sum_congr (fun i hi => h i (by omega)), h n (by omega)]
theorem zs_sum_add (f g : Nat → Int) : ∀ n, zs_sum (fun i => f i + g i) n = zs_sum f n + zs_sum g n
  | 0 => rfl
  | n + 1 => by
    show zs_sum _ n + (f n + g n) = (zs_sum f n + f n) + (zs_sum g n + g n)
    rw [zs_sum_add f g n]
    omega
theorem zs_sum_nonneg {f : Nat → Int} : ∀ {n : Nat}, (∀ i, i < n → 0 ≤ f i) → 0 ≤ zs_sum f n
  | 0, _ => Int.le_refl 0
  | n + 1, h => by
    have := zs_sum_nonneg (fun i hi => h i (by omega) : ∀ i, i < n → 0 ≤ f i)
    have := h n (by omega)
    show 0 ≤ zs_sum f n + f n
    omega
theorem zs_sum_le {f g : Nat → Int} : ∀ {n : Nat}, (∀ i, i < n → f i ≤ g i) → zs_sum f n ≤ zs_sum g n
  | 0, _ => Int.le_refl 0
  | n + 1, h => by
    have := zs_sum_le (fun i hi => h i (by omega) : ∀ i, i < n → f i ≤ g i)
    have := h n (by omega)
    show zs_sum f n + f n ≤ zs_sum g n + g n
    omega
theorem zs_sum_mono {f : Nat → Int} {m : Nat} : ∀ {n : Nat}, m ≤ n → (∀ i, i < n → 0 ≤ f i) → zs_sum f m ≤ zs_sum f n
  | 0, h, _ => by rw [show m = 0 by omega]; exact Int.le_refl _
  | n + 1, h, h0 => by
    by_cases e : m = n + 1
    · rw [e]; exact Int.le_refl _
    · have := zs_sum_mono (show m ≤ n by omega) (fun i hi => h0 i (by omega) : ∀ i, i < n → 0 ≤ f i)
      have := h0 n (by omega)
      show zs_sum f m ≤ zs_sum f n + f n
      omega
/-- quotient and rest of numbers that are not below 0 -/
theorem zb_div {a b : Int} (ha : 0 ≤ a) (ha2 : a < 2147483648) (hb : 0 < b ∧ b < 2147483648) : Int32.ofInt a / Int32.ofInt b = Int32.ofInt (a / b) := by
  apply Int32.toInt_inj.mp
  have h1 : (Int32.ofInt a).toInt = a := Int32.toInt_ofInt_of_le (by omega) (by omega)
  have h2 : (Int32.ofInt b).toInt = b := Int32.toInt_ofInt_of_le (by omega) (by omega)
  have h3 : 0 ≤ a / b := Int.ediv_nonneg ha (by omega)
  have h4 : a / b ≤ a := Int.ediv_le_self b ha
  rw [Int32.toInt_div, h1, h2, Int.tdiv_eq_ediv_of_nonneg ha, Int32.toInt_ofInt_of_le (by omega) (by omega)]
  exact Int.bmod_eq_of_le (by omega) (by omega)
theorem zb_rem {a b : Int} (ha : 0 ≤ a) (ha2 : a < 2147483648) (hb : 0 < b ∧ b < 2147483648) : Int32.ofInt a - Int32.ofInt a / Int32.ofInt b * Int32.ofInt b = Int32.ofInt (a % b) := by
  rw [zb_div ha ha2 hb, ← Int32.ofInt_mul, ← Int32.ofInt_sub]
  congr 1
  have := Int.emod_add_mul_ediv a b
  rw [Int.mul_comm (a / b) b]
  omega
theorem zb_ldiv {a b : Int} (ha : 0 ≤ a) (ha2 : a < 9223372036854775808) (hb : 0 < b ∧ b < 9223372036854775808) : Int64.ofInt a / Int64.ofInt b = Int64.ofInt (a / b) := by
  apply Int64.toInt_inj.mp
  have h1 : (Int64.ofInt a).toInt = a := Int64.toInt_ofInt_of_le (by omega) (by omega)
  have h2 : (Int64.ofInt b).toInt = b := Int64.toInt_ofInt_of_le (by omega) (by omega)
  have h3 : 0 ≤ a / b := Int.ediv_nonneg ha (by omega)
  have h4 : a / b ≤ a := Int.ediv_le_self b ha
  rw [Int64.toInt_div, h1, h2, Int.tdiv_eq_ediv_of_nonneg ha, Int64.toInt_ofInt_of_le (by omega) (by omega)]
  exact Int.bmod_eq_of_le (by omega) (by omega)
theorem zb_lrem {a b : Int} (ha : 0 ≤ a) (ha2 : a < 9223372036854775808) (hb : 0 < b ∧ b < 9223372036854775808) : Int64.ofInt a - Int64.ofInt a / Int64.ofInt b * Int64.ofInt b = Int64.ofInt (a % b) := by
  rw [zb_ldiv ha ha2 hb, ← Int64.ofInt_mul, ← Int64.ofInt_sub]
  congr 1
  have := Int.emod_add_mul_ediv a b
  rw [Int.mul_comm (a / b) b]
  omega
/-- the top five bits of a long -/
def zb_top (z : Int) : Int := z % 18446744073709551616 / 576460752303423488
theorem zb_top_b (z : Int) : 0 ≤ zb_top z ∧ zb_top z < 32 := by
  unfold zb_top
  have h1 := Int.emod_nonneg z (show (18446744073709551616 : Int) ≠ 0 by decide)
  have h2 := Int.emod_lt_of_pos z (show (0 : Int) < 18446744073709551616 by decide)
  omega
theorem zb_lushr (z : Int) : ((Int64.ofInt z).toUInt64 >>> ((Int32.ofInt 59).toInt64.toUInt64 &&& Int64.toUInt64 63)).toInt64 = Int64.ofInt (zb_top z) := by
  have hs : ((Int32.ofInt 59).toInt64.toUInt64 &&& Int64.toUInt64 63) = UInt64.ofNat 59 := by decide
  rw [hs]
  have hb := zb_top_b z
  obtain ⟨m, hm⟩ : ∃ m : Nat, zb_top z = (m : Int) := ⟨(zb_top z).toNat, by omega⟩
  rw [hm]
  have hx : (Int64.ofInt z).toUInt64.toNat = (z % 18446744073709551616).toNat := by
    show (BitVec.ofInt 64 z).toNat = _
    rw [BitVec.toNat_ofInt]
    rfl
  apply Int64.toBitVec_inj.1
  show ((Int64.ofInt z).toUInt64 >>> UInt64.ofNat 59).toBitVec = BitVec.ofInt 64 (m : Int)
  rw [BitVec.ofInt_natCast]
  apply BitVec.eq_of_toNat_eq
  show ((Int64.ofInt z).toUInt64 >>> UInt64.ofNat 59).toNat = _
  rw [UInt64.toNat_shiftRight, hx, show (UInt64.ofNat 59).toNat % 64 = 59 by decide, Nat.shiftRight_eq_div_pow, BitVec.toNat_ofNat, Nat.mod_eq_of_lt (show m < 2 ^ 64 by omega)]
  unfold zb_top at hm
  have h1 := Int.emod_nonneg z (show (18446744073709551616 : Int) ≠ 0 by decide)
  generalize z % 18446744073709551616 = y at h1 hm ⊢
  omega
