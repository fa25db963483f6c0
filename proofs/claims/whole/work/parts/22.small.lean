/-! Math, Fraction, StandIn -/
section ZT3
variable {Γ : zg_C} {K : zg_K} {N : Nat} {P : zg_P} {V : zg_V}
theorem ct_max {a b : Int} (ha : -2147483648 ≤ a ∧ a < 2147483648) (hb : -2147483648 ≤ b ∧ b < 2147483648) : zg_S Γ zm_Math_max 0 0 0 [zg_i a, zg_i b] K N P V (zq_p K N P V (some (zg_i (if a < b then b else a)))) := by
  refine zg_enterF 0 (by decide +kernel) (Nat.le_of_ble_eq_true rfl) rfl ?_
  refine zg_il0 zd_Math_max_0 ?_
  refine zg_il1 zd_Math_max_1 ?_
  refine zg_icmp_lt (tgt := 9) zd_Math_max_2 (by decide) (by omega) (by omega) (fun b2 => ?_) (fun b2 => ?_)
  · refine zg_il1 zd_Math_max_9 ?_
    refine zg_ireturn zd_Math_max_10 rfl ?_
    first | (rw [if_pos b2]; exact ⟨rfl, rfl, rfl, rfl, rfl⟩) | (rw [if_neg b2]; exact ⟨rfl, rfl, rfl, rfl, rfl⟩)
  · refine zg_il0 zd_Math_max_5 ?_
    refine zg_goto (tgt := 10) zd_Math_max_6 (by decide) ?_
    refine zg_ireturn zd_Math_max_10 rfl ?_
    first | (rw [if_pos b2]; exact ⟨rfl, rfl, rfl, rfl, rfl⟩) | (rw [if_neg b2]; exact ⟨rfl, rfl, rfl, rfl, rfl⟩)
theorem ct_abs {a : Int} (ha : -2147483648 ≤ a ∧ a < 2147483648) : zg_S Γ zm_Math_abs 0 0 0 [zg_i a] K N P V (zq_p K N P V (some (zg_i (if 0 ≤ a then a else -a)))) := by
  refine zg_enterF 0 (by decide +kernel) (Nat.le_of_ble_eq_true rfl) rfl ?_
  refine zg_il0 zd_Math_abs_0 ?_
  refine zg_if_ge (tgt := 9) zd_Math_abs_1 (by decide) (by omega) (fun b1 => ?_) (fun b1 => ?_)
  · refine zg_il0 zd_Math_abs_9 ?_
    refine zg_ireturn zd_Math_abs_10 rfl ?_
    first | (rw [if_pos b1]; exact ⟨rfl, rfl, rfl, rfl, rfl⟩) | (rw [if_neg b1]; exact ⟨rfl, rfl, rfl, rfl, rfl⟩)
  · refine zg_il0 zd_Math_abs_4 ?_
    refine zg_ineg zd_Math_abs_5 ?_
    refine zg_goto (tgt := 10) zd_Math_abs_6 (by decide) ?_
    refine zg_ireturn zd_Math_abs_10 rfl ?_
    first | (rw [if_pos b1]; exact ⟨rfl, rfl, rfl, rfl, rfl⟩) | (rw [if_neg b1]; exact ⟨rfl, rfl, rfl, rfl, rfl⟩)
theorem zb_lxor2 (x : Int) (hx : -9223372036854775808 ≤ x ∧ x < 9223372036854775808) : ∃ z : Int, Int64.ofInt x ^^^ Int64.ofInt 2 = Int64.ofInt z ∧ (z < 0 ↔ x < 0) ∧ -9223372036854775808 ≤ z ∧ z < 9223372036854775808 := by
  refine ⟨(Int64.ofInt x ^^^ Int64.ofInt 2).toInt, (Int64.ofInt_toInt _).symm, ?_, Int64.le_toInt _, Int64.toInt_lt _⟩
  have h1 : (Int64.ofInt x).toInt = x := Int64.toInt_ofInt_of_le (by omega) (by omega)
  have h2 : ((Int64.ofInt x ^^^ Int64.ofInt 2).toBitVec).msb = (Int64.ofInt x).toBitVec.msb := by
    rw [Int64.toBitVec_xor, BitVec.msb_xor]
    have : (Int64.ofInt 2).toBitVec.msb = false := by decide
    rw [this, Bool.xor_false]
  rw [BitVec.msb_eq_toInt, BitVec.msb_eq_toInt] at h2
  have h3 : (Int64.ofInt x ^^^ Int64.ofInt 2).toInt = (Int64.ofInt x ^^^ Int64.ofInt 2).toBitVec.toInt := rfl
  have h4 : (Int64.ofInt x).toInt = (Int64.ofInt x).toBitVec.toInt := rfl
  rw [← h3, ← h4, h1] at h2
  exact decide_eq_decide.mp h2
theorem zb_td (x : Int) : (0 ≤ x ∧ x.tdiv 2 = x / 2) ∨ (x < 0 ∧ x.tdiv 2 = -((-x) / 2)) := by
  by_cases h : 0 ≤ x
  · exact Or.inl ⟨h, Int.tdiv_eq_ediv_of_nonneg h⟩
  · refine Or.inr ⟨by omega, ?_⟩
    have h1 : (-x).tdiv 2 = (-x) / 2 := Int.tdiv_eq_ediv_of_nonneg (by omega)
    rw [Int.neg_tdiv] at h1
    omega
theorem zb_ldiv2 {x : Int} (hx : -9223372036854775808 ≤ x ∧ x < 9223372036854775808) : Int64.ofInt x / Int64.ofInt 2 = Int64.ofInt (x.tdiv 2) := by
  apply Int64.toInt_inj.mp
  have h1 : (Int64.ofInt x).toInt = x := Int64.toInt_ofInt_of_le (by omega) (by omega)
  have h2 : (Int64.ofInt 2).toInt = 2 := by decide
  have h3 : -9223372036854775808 ≤ x.tdiv 2 ∧ x.tdiv 2 < 9223372036854775808 := by have := zb_td x; omega
  rw [Int64.toInt_div, h1, h2, Int64.toInt_ofInt_of_le (by omega) (by omega)]
  exact Int.bmod_eq_of_le (by omega) (by omega)
theorem ct_floorDiv {x : Int} (hx : -4294967296 ≤ x ∧ x < 4294967296) : zg_S Γ zm_Math_floorDiv 0 0 0 [zg_l x, zg_l 2] K N P V (zq_p K N P V (some (zg_l (x / 2)))) := by
  obtain ⟨w, hw1, hw2, hw3⟩ := zb_lxor2 x (by omega)
  have hq : -4294967296 ≤ x.tdiv 2 ∧ x.tdiv 2 < 4294967296 := by have := zb_td x; omega
  refine zg_enterF 2 (by decide +kernel) (Nat.le_of_ble_eq_true rfl) rfl ?_
  refine zg_ll0 zd_Math_floorDiv_0 ?_
  refine zg_ll2 zd_Math_floorDiv_1 ?_
  refine zg_ldiv (x.tdiv 2) zd_Math_floorDiv_2 (by decide) (zb_ldiv2 (by omega)) ?_
  refine zg_ls4 zd_Math_floorDiv_3 (fun w h => by cases h <;> rfl) (by decide) ?_
  refine zg_ll0 zd_Math_floorDiv_5 ?_
  refine zg_ll2 zd_Math_floorDiv_6 ?_
  refine zg_lxor w zd_Math_floorDiv_7 hw1 ?_
  refine zg_lconst (z := 0) zd_Math_floorDiv_8 rfl ?_
  refine zg_lcmp zd_Math_floorDiv_9 (by omega) (by decide) ?_
  have hc1 : zg_cmp w 0 = 1 ∨ zg_cmp w 0 = 0 ∨ zg_cmp w 0 = -1 := by unfold zg_cmp; split <;> (try split) <;> simp
  have hc2 : (0 ≤ zg_cmp w 0 ↔ 0 ≤ w) := by unfold zg_cmp; split <;> (try split) <;> omega
  have hc3 : zg_cmp (x.tdiv 2 * 2) x = 1 ∨ zg_cmp (x.tdiv 2 * 2) x = 0 ∨ zg_cmp (x.tdiv 2 * 2) x = -1 := by unfold zg_cmp; split <;> (try split) <;> simp
  have hc4 : (zg_cmp (x.tdiv 2 * 2) x = 0 ↔ x.tdiv 2 * 2 = x) := by unfold zg_cmp; split <;> (try split) <;> omega
  have htd := zb_td x
  refine zg_if_ge (tgt := 27) zd_Math_floorDiv_10 (by decide) (by omega) (fun b10 => ?_) (fun b10 => ?_)
  · refine zg_ll4 zd_Math_floorDiv_27 ?_
    refine zg_lreturn zd_Math_floorDiv_29 rfl ?_
    first | (rw [show x.tdiv 2 - 1 = x / 2 by omega]; exact ⟨rfl, rfl, rfl, rfl, rfl⟩) | (rw [show x.tdiv 2 = x / 2 by omega]; exact ⟨rfl, rfl, rfl, rfl, rfl⟩)
  · refine zg_ll4 zd_Math_floorDiv_13 ?_
    refine zg_ll2 zd_Math_floorDiv_15 ?_
    refine zg_lmul zd_Math_floorDiv_16 ?_
    refine zg_ll0 zd_Math_floorDiv_17 ?_
    refine zg_lcmp zd_Math_floorDiv_18 (by omega) (by omega) ?_
    refine zg_if_eq (tgt := 27) zd_Math_floorDiv_19 (by decide) (by omega) (fun b19 => ?_) (fun b19 => ?_)
    · refine zg_ll4 zd_Math_floorDiv_27 ?_
      refine zg_lreturn zd_Math_floorDiv_29 rfl ?_
      first | (rw [show x.tdiv 2 - 1 = x / 2 by omega]; exact ⟨rfl, rfl, rfl, rfl, rfl⟩) | (rw [show x.tdiv 2 = x / 2 by omega]; exact ⟨rfl, rfl, rfl, rfl, rfl⟩)
    · refine zg_ll4 zd_Math_floorDiv_22 ?_
      refine zg_lconst (z := 1) zd_Math_floorDiv_24 rfl ?_
      refine zg_lsub zd_Math_floorDiv_25 ?_
      refine zg_lreturn zd_Math_floorDiv_26 rfl ?_
      first | (rw [show x.tdiv 2 - 1 = x / 2 by omega]; exact ⟨rfl, rfl, rfl, rfl, rfl⟩) | (rw [show x.tdiv 2 = x / 2 by omega]; exact ⟨rfl, rfl, rfl, rfl, rfl⟩)
/-! ### Fraction -/
theorem ct_gcd {x0 y0 : Nat} (hx : x0 < 1099511627776) (hy : y0 < 1099511627776) : zg_S Γ zm_Fraction_commonDivisor 0 0 0 [zg_l x0, zg_l y0] K N P V (zq_p K N P V (some (zg_l (Nat.gcd x0 y0 : Nat)))) := by
  generalize hQ : zq_p K N P V (some (zg_l (Nat.gcd x0 y0 : Nat))) = Q
  refine zg_enter 7 (by decide) (Nat.le_of_ble_eq_true rfl) rfl ?_
  refine zg_ll0 zd_Fraction_commonDivisor_0 ?_
  refine zg_ls4 zd_Fraction_commonDivisor_1 (fun w h => by cases h <;> rfl) (by decide) ?_
  refine zg_ll2 zd_Fraction_commonDivisor_3 ?_
  refine zg_ls6 zd_Fraction_commonDivisor_4 (fun w h => by cases h <;> rfl) (by decide) ?_
  refine zg_iconst zd_Fraction_commonDivisor_6 ?_
  refine zg_is8 zd_Fraction_commonDivisor_7 (fun w h => by cases h <;> rfl) (by decide) ?_
  have step : ∀ (i x y : Nat) (o9 : Option Value), i < 100 → 0 < y → x < 1099511627776 → y < 1099511627776 → (∀ o9' : Option Value, zg_G Γ (fun _ => True) zm_Fraction_commonDivisor (zg_rm 0 0 0) (zg_Ω Γ Q 0 0) 0 0 9 [some (zg_l x0), none, some (zg_l y0), none, some (zg_l (y : Nat)), none, some (zg_l (x % y : Nat)), none, some (zg_i (i + 1 : Nat)), o9', none] [] K N P V) → zg_G Γ (fun _ => True) zm_Fraction_commonDivisor (zg_rm 0 0 0) (zg_Ω Γ Q 0 0) 0 0 9 [some (zg_l x0), none, some (zg_l y0), none, some (zg_l (x : Nat)), none, some (zg_l (y : Nat)), none, some (zg_i (i : Nat)), o9, none] [] K N P V := by
    intro i x y o9 hi hy0 hx1 hy1 kk
    have hc : zg_cmp (y : Int) 0 = 1 := by unfold zg_cmp; rw [if_pos (by omega)]
    refine zg_il8 zd_Fraction_commonDivisor_9 ?_
    refine zg_bipush zd_Fraction_commonDivisor_11 (by decide) ?_
    refine zg_icmp_ge (tgt := 44) zd_Fraction_commonDivisor_13 (by decide) (by omega) (by omega) (fun b13 => ?_) (fun b13 => ?_)
    · omega
    · refine zg_ll6 zd_Fraction_commonDivisor_16 ?_
      refine zg_lconst (z := 0) zd_Fraction_commonDivisor_18 rfl ?_
      refine zg_lcmp zd_Fraction_commonDivisor_19 (by omega) (by omega) ?_
      rw [hc]
      refine zg_if_eq (tgt := 44) zd_Fraction_commonDivisor_20 (by decide) (by omega) (fun b20 => ?_) (fun b20 => ?_)
      · omega
      · refine zg_ll4 zd_Fraction_commonDivisor_23 ?_
        refine zg_ll6 zd_Fraction_commonDivisor_25 ?_
        refine zg_lrem ((x % y : Nat) : Int) zd_Fraction_commonDivisor_27 (by intro h; have := congrArg Int64.toInt h; rw [Int64.toInt_ofInt_of_le (by omega) (by omega)] at this; simp at this; omega) (zb_lrem (by omega) (by omega) (by omega)) ?_
        refine zg_ls9 zd_Fraction_commonDivisor_28 (fun w h => by cases h <;> rfl) (by decide) ?_
        refine zg_ll6 zd_Fraction_commonDivisor_30 ?_
        refine zg_ls4 zd_Fraction_commonDivisor_32 (fun w h => by cases h <;> rfl) (by decide) ?_
        refine zg_ll9 zd_Fraction_commonDivisor_34 ?_
        refine zg_ls6 zd_Fraction_commonDivisor_36 (fun w h => by cases h <;> rfl) (by decide) ?_
        refine zg_inc8 zd_Fraction_commonDivisor_38 (fun w h => by cases h <;> rfl) (by decide) ?_
        refine zg_goto (tgt := 9) zd_Fraction_commonDivisor_41 (by decide) ?_
        exact kk _
  have done : ∀ (i x : Nat) (o9 : Option Value), i ≤ 100 → x < 1099511627776 → x = Nat.gcd x0 y0 → zg_G Γ (fun _ => True) zm_Fraction_commonDivisor (zg_rm 0 0 0) (zg_Ω Γ Q 0 0) 0 0 9 [some (zg_l x0), none, some (zg_l y0), none, some (zg_l (x : Nat)), none, some (zg_l (0 : Nat)), none, some (zg_i (i : Nat)), o9, none] [] K N P V := by
    intro i x o9 hi hx1 he
    refine zg_il8 zd_Fraction_commonDivisor_9 ?_
    refine zg_bipush zd_Fraction_commonDivisor_11 (by decide) ?_
    refine zg_icmp_ge (tgt := 44) zd_Fraction_commonDivisor_13 (by decide) (by omega) (by omega) (fun b13 => ?_) (fun b13 => ?_)
    · refine zg_ll4 zd_Fraction_commonDivisor_44 ?_
      refine zg_lreturn zd_Fraction_commonDivisor_46 rfl ?_
      subst hQ; rw [he]; exact ⟨rfl, rfl, rfl, rfl, rfl⟩
    · refine zg_ll6 zd_Fraction_commonDivisor_16 ?_
      refine zg_lconst (z := 0) zd_Fraction_commonDivisor_18 rfl ?_
      refine zg_lcmp zd_Fraction_commonDivisor_19 (by omega) (by omega) ?_
      rw [show zg_cmp ((0 : Nat) : Int) 0 = 0 from rfl]
      refine zg_if_eq (tgt := 44) zd_Fraction_commonDivisor_20 (by decide) (by omega) (fun b20 => ?_) (fun b20 => ?_)
      · refine zg_ll4 zd_Fraction_commonDivisor_44 ?_
        refine zg_lreturn zd_Fraction_commonDivisor_46 rfl ?_
        subst hQ; rw [he]; exact ⟨rfl, rfl, rfl, rfl, rfl⟩
      · omega
  have key : ∀ (m i x y : Nat) (o9 : Option Value), i + 2 * m ≤ 100 → x < 1099511627776 → y < 1099511627776 → y < 2 ^ m → Nat.gcd x y = Nat.gcd x0 y0 → zg_G Γ (fun _ => True) zm_Fraction_commonDivisor (zg_rm 0 0 0) (zg_Ω Γ Q 0 0) 0 0 9 [some (zg_l x0), none, some (zg_l y0), none, some (zg_l (x : Nat)), none, some (zg_l (y : Nat)), none, some (zg_i (i : Nat)), o9, none] [] K N P V := by
    intro m
    induction m with
    | zero =>
      intro i x y o9 h1 h2 h3 h4 h5
      have e : y = 0 := by simpa using h4
      subst e
      exact done i x o9 (by omega) h2 (by rw [← h5, Nat.gcd_zero_right])
    | succ m ih =>
      intro i x y o9 h1 h2 h3 h4 h5
      by_cases e : y = 0
      · subst e
        exact done i x o9 (by omega) h2 (by rw [← h5, Nat.gcd_zero_right])
      · have hr : x % y < y := Nat.mod_lt _ (by omega)
        have hg : Nat.gcd y (x % y) = Nat.gcd x0 y0 := by rw [← h5, Nat.gcd_comm y (x % y), ← Nat.gcd_rec, Nat.gcd_comm]
        refine step i x y o9 (by omega) (by omega) h2 h3 (fun o => ?_)
        by_cases e2 : x % y = 0
        · rw [e2] at hg ⊢
          exact done (i + 1) y o (by omega) h3 (by rw [← hg, Nat.gcd_zero_right])
        · have hr2 : y % (x % y) < x % y := Nat.mod_lt _ (by omega)
          have hr3 : 2 * (y % (x % y)) < y := by
            have := Nat.mod_add_div y (x % y)
            have h6 : 1 ≤ y / (x % y) := (Nat.one_le_div_iff (by omega)).mpr (by omega)
            have h7 : x % y ≤ (x % y) * (y / (x % y)) := Nat.le_mul_of_pos_right _ h6
            omega
          refine step (i + 1) y (x % y) o (by omega) (by omega) h3 (by omega) (fun o2 => ?_)
          refine ih (i + 1 + 1) (x % y) (y % (x % y)) o2 (by omega) (by omega) (by omega) (by rw [Nat.pow_succ] at h4; omega) ?_
          rw [← hg, Nat.gcd_comm (x % y), ← Nat.gcd_rec, Nat.gcd_comm]
  exact key 40 0 x0 y0 none (by omega) hx hy (by omega) rfl
def zf_set (V : zg_V) (a : Nat) (x y : Int) : zg_V := zg_u (zg_u V a 0 x) a 1 y
theorem ct_fset {a t b : Nat} (ha : a < N) (hk : K a = (0, 4)) (ht : t < 1099511627776) (hb : 0 < b ∧ b < 1099511627776) : zg_S Γ zm_Fraction_set 1 0 0 [zg_r Γ a, zg_l t, zg_l b] K N P V (zq_p K N P (zf_set V a ((t / Nat.gcd t b : Nat) : Int) ((b / Nat.gcd t b : Nat) : Int)) none) := by
  have hg : 0 < Nat.gcd t b := Nat.gcd_pos_of_pos_right _ hb.1
  have hg2 : Nat.gcd t b ≤ b := Nat.gcd_le_right _ hb.1
  have hc : zg_cmp ((Nat.gcd t b : Nat) : Int) 0 = 1 := by unfold zg_cmp; rw [if_pos (by omega)]
  refine zg_enter 2 (by decide) (Nat.le_of_ble_eq_true rfl) rfl ?_
  refine zg_ll1 zd_Fraction_set_0 ?_
  refine zg_ll3 zd_Fraction_set_1 ?_
  refine zg_cSp2 zd_Fraction_set_2 zM_Fraction_commonDivisor zw_409 zi_Fraction_commonDivisor (ct_gcd ht hb.2) (by decide) (by decide) (Nat.le_of_ble_eq_true rfl) ?_
  refine zg_ls5 zd_Fraction_set_5 (fun w h => by cases h <;> rfl) (by decide) ?_
  refine zg_ll5 zd_Fraction_set_7 ?_
  refine zg_lconst (z := 0) zd_Fraction_set_9 rfl ?_
  refine zg_lcmp zd_Fraction_set_10 (by omega) (by omega) ?_
  rw [hc]
  refine zg_if_le (tgt := 30) zd_Fraction_set_11 (by decide) (by omega) (fun b11 => ?_) (fun b11 => ?_)
  · refine zg_return zd_Fraction_set_30 rfl ?_
    first | omega | exact ⟨rfl, rfl, rfl, rfl, rfl⟩
  · refine zg_al0 zd_Fraction_set_14 ?_
    refine zg_ll1 zd_Fraction_set_15 ?_
    refine zg_ll5 zd_Fraction_set_16 ?_
    refine zg_ldiv ((t / Nat.gcd t b : Nat) : Int) zd_Fraction_set_18 (by intro h; have := congrArg Int64.toInt h; rw [Int64.toInt_ofInt_of_le (by omega) (by omega)] at this; simp at this; omega) (zb_ldiv (by omega) (by omega) (by omega)) ?_
    refine zg_putl zd_Fraction_set_19 zf_78 rfl (by omega) (by first | assumption | rfl) rfl ?_
    refine zg_al0 zd_Fraction_set_22 ?_
    refine zg_ll3 zd_Fraction_set_23 ?_
    refine zg_ll5 zd_Fraction_set_24 ?_
    refine zg_ldiv ((b / Nat.gcd t b : Nat) : Int) zd_Fraction_set_26 (by intro h; have := congrArg Int64.toInt h; rw [Int64.toInt_ofInt_of_le (by omega) (by omega)] at this; simp at this; omega) (zb_ldiv (by omega) (by omega) (by omega)) ?_
    refine zg_putl zd_Fraction_set_27 zf_82 rfl (by omega) (by first | assumption | rfl) rfl ?_
    refine zg_return zd_Fraction_set_30 rfl ?_
    first | omega | exact ⟨rfl, rfl, rfl, rfl, rfl⟩
theorem ct_fcopy {a o : Nat} (ha : a < N) (ho : o < N) (hk : K a = (0, 4)) (hk2 : K o = (0, 4)) : zg_S Γ zm_Fraction_copyFrom 0 0 0 [zg_r Γ a, zg_r Γ o] K N P V (zq_p K N P (zf_set V a (V o 0) (V o 1)) none) := by
  refine zg_enter 0 (by decide) (Nat.le_of_ble_eq_true rfl) rfl ?_
  refine zg_al0 zd_Fraction_copyFrom_0 ?_
  refine zg_al1 zd_Fraction_copyFrom_1 ?_
  refine zg_getl zd_Fraction_copyFrom_2 zf_78 (by omega) (by first | assumption | rfl) rfl ?_
  refine zg_putl zd_Fraction_copyFrom_5 zf_78 rfl (by omega) (by first | assumption | rfl) rfl ?_
  refine zg_al0 zd_Fraction_copyFrom_8 ?_
  refine zg_al1 zd_Fraction_copyFrom_9 ?_
  refine zg_getl zd_Fraction_copyFrom_10 zf_82 (by omega) (by first | assumption | rfl) rfl ?_
  have e : zg_u V a 0 (V o 0) o 1 = V o 1 := by simp [zg_u]
  rw [e]
  refine zg_putl zd_Fraction_copyFrom_13 zf_82 rfl (by omega) (by first | assumption | rfl) rfl ?_
  refine zg_return zd_Fraction_copyFrom_16 rfl ?_
  exact ⟨rfl, rfl, rfl, rfl, rfl⟩
theorem ct_fmore {a o : Nat} (ha : a < N) (ho : o < N) (hk : K a = (0, 4)) (hk2 : K o = (0, 4)) (h1 : 0 ≤ V a 0 * V o 1 ∧ V a 0 * V o 1 < 4611686018427387904) (h2 : 0 ≤ V o 0 * V a 1 ∧ V o 0 * V a 1 < 4611686018427387904) : zg_S Γ zm_Fraction_isMoreThan 0 0 0 [zg_r Γ a, zg_r Γ o] K N P V (zq_p K N P V (some (zg_i (zg_b (decide (V o 0 * V a 1 < V a 0 * V o 1)))))) := by
  have hc1 : zg_cmp (V a 0 * V o 1) (V o 0 * V a 1) = 1 ∨ zg_cmp (V a 0 * V o 1) (V o 0 * V a 1) = 0 ∨ zg_cmp (V a 0 * V o 1) (V o 0 * V a 1) = -1 := by unfold zg_cmp; split <;> (try split) <;> simp
  have hc2 : (zg_cmp (V a 0 * V o 1) (V o 0 * V a 1) ≤ 0 ↔ ¬ V o 0 * V a 1 < V a 0 * V o 1) := by unfold zg_cmp; split <;> (try split) <;> omega
  refine zg_enter 0 (by decide) (Nat.le_of_ble_eq_true rfl) rfl ?_
  refine zg_al0 zd_Fraction_isMoreThan_0 ?_
  refine zg_getl zd_Fraction_isMoreThan_1 zf_78 (by omega) (by first | assumption | rfl) rfl ?_
  refine zg_al1 zd_Fraction_isMoreThan_4 ?_
  refine zg_getl zd_Fraction_isMoreThan_5 zf_82 (by omega) (by first | assumption | rfl) rfl ?_
  refine zg_lmul zd_Fraction_isMoreThan_8 ?_
  refine zg_al1 zd_Fraction_isMoreThan_9 ?_
  refine zg_getl zd_Fraction_isMoreThan_10 zf_78 (by omega) (by first | assumption | rfl) rfl ?_
  refine zg_al0 zd_Fraction_isMoreThan_13 ?_
  refine zg_getl zd_Fraction_isMoreThan_14 zf_82 (by omega) (by first | assumption | rfl) rfl ?_
  refine zg_lmul zd_Fraction_isMoreThan_17 ?_
  refine zg_lcmp zd_Fraction_isMoreThan_18 (by omega) (by omega) ?_
  refine zg_if_le (tgt := 26) zd_Fraction_isMoreThan_19 (by decide) (by omega) (fun b19 => ?_) (fun b19 => ?_)
  · refine zg_iconst zd_Fraction_isMoreThan_26 ?_
    refine zg_zreturn zd_Fraction_isMoreThan_27 rfl (by omega) ?_
    exact ⟨by rw [zg_b_eq]; simp; omega, rfl, rfl, rfl, rfl⟩
  · refine zg_iconst zd_Fraction_isMoreThan_22 ?_
    refine zg_goto (tgt := 27) zd_Fraction_isMoreThan_23 (by decide) ?_
    refine zg_zreturn zd_Fraction_isMoreThan_27 rfl (by omega) ?_
    exact ⟨by rw [zg_b_eq]; simp; omega, rfl, rfl, rfl, rfl⟩
/-! ### StandIn -/
def zf_st (V : zg_V) (a : Nat) (x y z w : Int) : zg_V := zg_u (zg_u (zg_u (zg_u V a 0 x) a 1 y) a 2 z) a 3 w
theorem ct_scopy {a o : Nat} (ha : a < N) (ho : o < N) (hk : K a = (0, 5)) (hk2 : K o = (0, 5)) (hz : V o 2 = 0 ∨ V o 2 = 1) : zg_S Γ zm_StandIn_copyFrom 0 0 0 [zg_r Γ a, zg_r Γ o] K N P V (zq_p K N P (zf_st V a (V o 0) (V o 1) (V o 2) (V o 3)) none) := by
  refine zg_enter 0 (by decide) (Nat.le_of_ble_eq_true rfl) rfl ?_
  refine zg_al0 zd_StandIn_copyFrom_0 ?_
  refine zg_al1 zd_StandIn_copyFrom_1 ?_
  refine zg_geti zd_StandIn_copyFrom_2 zf_97 (by omega) (by first | assumption | rfl) rfl ?_
  refine zg_puti zd_StandIn_copyFrom_5 zf_97 rfl (by omega) (by first | assumption | rfl) rfl ?_
  refine zg_al0 zd_StandIn_copyFrom_8 ?_
  refine zg_al1 zd_StandIn_copyFrom_9 ?_
  refine zg_geti zd_StandIn_copyFrom_10 zf_100 (by omega) (by first | assumption | rfl) rfl ?_
  rw [show zg_u V a 0 (V o 0) o 1 = V o 1 by simp [zg_u]]
  refine zg_puti zd_StandIn_copyFrom_13 zf_100 rfl (by omega) (by first | assumption | rfl) rfl ?_
  refine zg_al0 zd_StandIn_copyFrom_16 ?_
  refine zg_al1 zd_StandIn_copyFrom_17 ?_
  refine zg_getz zd_StandIn_copyFrom_18 zf_103 (by omega) (by first | assumption | rfl) rfl ?_
  rw [show zg_u (zg_u V a 0 (V o 0)) a 1 (V o 1) o 2 = V o 2 by simp [zg_u]]
  refine zg_putz zd_StandIn_copyFrom_21 zf_103 rfl (by omega) (by first | assumption | rfl) rfl (by omega) ?_
  refine zg_al0 zd_StandIn_copyFrom_24 ?_
  refine zg_al1 zd_StandIn_copyFrom_25 ?_
  refine zg_geti zd_StandIn_copyFrom_26 zf_105 (by omega) (by first | assumption | rfl) rfl ?_
  rw [show zg_u (zg_u (zg_u V a 0 (V o 0)) a 1 (V o 1)) a 2 (V o 2) o 3 = V o 3 by simp [zg_u]]
  refine zg_puti zd_StandIn_copyFrom_29 zf_105 rfl (by omega) (by first | assumption | rfl) rfl ?_
  refine zg_return zd_StandIn_copyFrom_32 rfl ?_
  exact ⟨rfl, rfl, rfl, rfl, rfl⟩
theorem ct_ssend {a : Nat} {x : Int} (ha : a < N) (hk : K a = (0, 5)) (hx : -2147483648 ≤ x ∧ x < 2147483648) (hl : -2147483648 ≤ V a 1 ∧ V a 1 < 2147483648) (hz : V a 2 = 0 ∨ V a 2 = 1) : zg_S Γ zm_StandIn_sendsLeft 0 0 0 [zg_r Γ a, zg_i x] K N P V (zq_p K N P V (some (zg_i (zg_b (decide (x ≤ V a 1) != decide (V a 2 = 1)))))) := by
  refine zg_enter 0 (by decide) (Nat.le_of_ble_eq_true rfl) rfl ?_
  refine zg_il1 zd_StandIn_sendsLeft_0 ?_
  refine zg_al0 zd_StandIn_sendsLeft_1 ?_
  refine zg_geti zd_StandIn_sendsLeft_2 zf_100 (by omega) (by first | assumption | rfl) rfl ?_
  refine zg_icmp_gt (tgt := 12) zd_StandIn_sendsLeft_5 (by decide) (by omega) (by omega) (fun b5 => ?_) (fun b5 => ?_)
  · refine zg_iconst zd_StandIn_sendsLeft_12 ?_
    refine zg_al0 zd_StandIn_sendsLeft_13 ?_
    refine zg_getz zd_StandIn_sendsLeft_14 zf_103 (by omega) (by first | assumption | rfl) rfl ?_
    refine zg_icmp_eq (tgt := 24) zd_StandIn_sendsLeft_17 (by decide) (by omega) (by omega) (fun b17 => ?_) (fun b17 => ?_)
    · refine zg_iconst zd_StandIn_sendsLeft_24 ?_
      refine zg_zreturn zd_StandIn_sendsLeft_25 rfl (by omega) ?_
      exact ⟨by rw [zg_b_eq]; by_cases c1 : x ≤ V a 1 <;> by_cases c2 : V a 2 = 1 <;> simp [c1, c2] <;> omega, rfl, rfl, rfl, rfl⟩
    · refine zg_iconst zd_StandIn_sendsLeft_20 ?_
      refine zg_goto (tgt := 25) zd_StandIn_sendsLeft_21 (by decide) ?_
      refine zg_zreturn zd_StandIn_sendsLeft_25 rfl (by omega) ?_
      exact ⟨by rw [zg_b_eq]; by_cases c1 : x ≤ V a 1 <;> by_cases c2 : V a 2 = 1 <;> simp [c1, c2] <;> omega, rfl, rfl, rfl, rfl⟩
  · refine zg_iconst zd_StandIn_sendsLeft_8 ?_
    refine zg_goto (tgt := 13) zd_StandIn_sendsLeft_9 (by decide) ?_
    refine zg_al0 zd_StandIn_sendsLeft_13 ?_
    refine zg_getz zd_StandIn_sendsLeft_14 zf_103 (by omega) (by first | assumption | rfl) rfl ?_
    refine zg_icmp_eq (tgt := 24) zd_StandIn_sendsLeft_17 (by decide) (by omega) (by omega) (fun b17 => ?_) (fun b17 => ?_)
    · refine zg_iconst zd_StandIn_sendsLeft_24 ?_
      refine zg_zreturn zd_StandIn_sendsLeft_25 rfl (by omega) ?_
      exact ⟨by rw [zg_b_eq]; by_cases c1 : x ≤ V a 1 <;> by_cases c2 : V a 2 = 1 <;> simp [c1, c2] <;> omega, rfl, rfl, rfl, rfl⟩
    · refine zg_iconst zd_StandIn_sendsLeft_20 ?_
      refine zg_goto (tgt := 25) zd_StandIn_sendsLeft_21 (by decide) ?_
      refine zg_zreturn zd_StandIn_sendsLeft_25 rfl (by omega) ?_
      exact ⟨by rw [zg_b_eq]; by_cases c1 : x ≤ V a 1 <;> by_cases c2 : V a 2 = 1 <;> simp [c1, c2] <;> omega, rfl, rfl, rfl, rfl⟩
theorem ct_scode {a : Nat} (ha : a < N) (hk : K a = (0, 5)) (hz : V a 2 = 0 ∨ V a 2 = 1) : zg_S Γ zm_StandIn_code 0 0 0 [zg_r Γ a] K N P V (zq_p K N P V (some (zg_i (V a 0 + 4 * V a 2 + 8 * V a 3)))) := by
  refine zg_enter 0 (by decide) (Nat.le_of_ble_eq_true rfl) rfl ?_
  refine zg_al0 zd_StandIn_code_0 ?_
  refine zg_geti zd_StandIn_code_1 zf_97 (by omega) (by first | assumption | rfl) rfl ?_
  refine zg_al0 zd_StandIn_code_4 ?_
  refine zg_getz zd_StandIn_code_5 zf_103 (by omega) (by first | assumption | rfl) rfl ?_
  refine zg_if_eq (tgt := 15) zd_StandIn_code_8 (by decide) (by omega) (fun b8 => ?_) (fun b8 => ?_)
  · refine zg_iconst zd_StandIn_code_15 ?_
    refine zg_iadd zd_StandIn_code_16 ?_
    refine zg_bipush zd_StandIn_code_17 (by decide) ?_
    refine zg_al0 zd_StandIn_code_19 ?_
    refine zg_geti zd_StandIn_code_20 zf_105 (by omega) (by first | assumption | rfl) rfl ?_
    refine zg_imul zd_StandIn_code_23 ?_
    refine zg_iadd zd_StandIn_code_24 ?_
    refine zg_ireturn zd_StandIn_code_25 rfl ?_
    first | (rw [show V a 2 = 1 by omega]; exact ⟨rfl, rfl, rfl, rfl, rfl⟩) | (rw [show V a 2 = 0 by omega]; exact ⟨rfl, rfl, rfl, rfl, rfl⟩)
  · refine zg_iconst zd_StandIn_code_11 ?_
    refine zg_goto (tgt := 16) zd_StandIn_code_12 (by decide) ?_
    refine zg_iadd zd_StandIn_code_16 ?_
    refine zg_bipush zd_StandIn_code_17 (by decide) ?_
    refine zg_al0 zd_StandIn_code_19 ?_
    refine zg_geti zd_StandIn_code_20 zf_105 (by omega) (by first | assumption | rfl) rfl ?_
    refine zg_imul zd_StandIn_code_23 ?_
    refine zg_iadd zd_StandIn_code_24 ?_
    refine zg_ireturn zd_StandIn_code_25 rfl ?_
    first | (rw [show V a 2 = 1 by omega]; exact ⟨rfl, rfl, rfl, rfl, rfl⟩) | (rw [show V a 2 = 0 by omega]; exact ⟨rfl, rfl, rfl, rfl, rfl⟩)
end ZT3

