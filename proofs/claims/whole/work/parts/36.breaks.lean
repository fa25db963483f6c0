/-! the theorem of breaks -/
section ZT16
variable {e : Nat → Int} {S : Nat → Bool} {kd : Nat → Int}
/-- split nodes of the shown tree -/
theorem zc_sh2 (hkd : ∀ k, S k = true ↔ kd k = 2) {p q : Int} {k : Nat} (h1 : 1 ≤ k) : zc_sh e S kd p q k = 2 ↔ zc_k e S p q k ∧ (k < 2 ∨ zc_sh e S kd p q (k / 2) = 2) := by
  have hf : zc_kk e S kd p q k = 2 ↔ zc_k e S p q k := by
    unfold zc_kk
    by_cases h : zc_kb e S p q k = true
    · rw [if_pos h]
      exact ⟨fun _ => zc_kb_iff.mp h, fun _ => rfl⟩
    · rw [if_neg h]
      constructor
      · intro q
        split at q
        · omega
        · rename_i h2; exact absurd q h2
      · intro q; exact absurd (zc_kb_iff.mpr q) h
  unfold zc_sh
  by_cases h2 : k < 2
  · rw [zt_do_1 _ h2, hf]
    exact ⟨fun q => ⟨q, Or.inl h2⟩, fun q => q.1⟩
  · by_cases h3 : zt_do (zc_kk e S kd p q) (k / 2) = 2
    · rw [zt_do_2 _ h2 h3, hf]
      exact ⟨fun q => ⟨q, Or.inr h3⟩, fun q => q.1⟩
    · rw [zt_do_3 _ h2 h3]
      constructor
      · intro q; omega
      · rintro ⟨-, q | q⟩
        · exact absurd q h2
        · exact absurd q h3
/-- in the shown tree leaves and errors are those of the cost -/
theorem zc_ls (hkd : ∀ k, S k = true ↔ kd k = 2) {p q : Int} : ∀ k, 1 ≤ k → (k < 2 ∨ zc_sh e S kd p q (k / 2) = 2) → zc_l (zc_sh e S kd p q) k = zc_L e S p q k ∧ zc_s e (zc_sh e S kd p q) k = zc_E e S p q k := by
  apply zc_ind
  intro k hk ih hsh
  by_cases h : zc_k e S p q k
  · have h2 : zc_sh e S kd p q k = 2 := (zc_sh2 hkd hk).mpr ⟨h, hsh⟩
    have i1 := (ih h.1.2).1 (Or.inr (by rw [show 2 * k / 2 = k by omega]; exact h2))
    have i2 := (ih h.1.2).2 (Or.inr (by rw [show (2 * k + 1) / 2 = k by omega]; exact h2))
    rw [zc_l_k hk h.1.2 h2, zc_s_k hk h.1.2 h2, zc_L_k h, zc_E_k h, i1.1, i1.2, i2.1, i2.2]
    exact ⟨rfl, rfl⟩
  · have h2 : ¬ zc_sh e S kd p q k = 2 := fun q => h ((zc_sh2 hkd hk).mp q).1
    rw [zc_l_n h2, zc_s_n h2, zc_L_n h, zc_E_n h]
    exact ⟨rfl, rfl⟩
/-- kept: the price is above p / q -/
theorem zc_k_pr {p q : Int} {k : Nat} (h : zc_k e S p q k) : (zc_L e S p q k - 1) * p < (e k - zc_E e S p q k) * q := by
  have h1 := h.2.2
  rw [← zc_C_k h, zc_C_eq e S p q k h.1.1] at h1
  rw [Int.sub_mul, Int.sub_mul, Int.one_mul]
  omega
theorem zc_L_mono {p q p' q' : Int} (hq : 0 < q) (hq' : 0 < q') (hle : p * q' ≤ p' * q) : ∀ k, 1 ≤ k → zc_L e S p' q' k ≤ zc_L e S p q k := by
  apply zc_ind
  intro k hk ih
  by_cases h : zc_k e S p' q' k
  · have h2 := (zc_mono e S hq hq' hle k hk).2 h
    have := ih h.1.2
    rw [zc_L_k h, zc_L_k h2]
    omega
  · rw [zc_L_n h]
    exact zc_L_pos e S p q k hk
theorem zc_mul3 {a b c d x y : Int} (hc : 0 < c) (h1 : a * b ≤ c * d) (ha : 0 < a) (h2 : x * c < b * y) (hy : 0 < y) : a * x < d * y := by
  have k1 : a * (x * c) < a * (b * y) := Int.mul_lt_mul_of_pos_left h2 ha
  have k2 : a * b * y ≤ c * d * y := Int.mul_le_mul_of_nonneg_right h1 (Int.le_of_lt hy)
  have k3 : a * x * c < d * y * c := by
    rw [show a * x * c = a * (x * c) by rw [Int.mul_assoc], show d * y * c = c * d * y by rw [Int.mul_comm (d * y) c, Int.mul_assoc]]
    rw [← Int.mul_assoc] at k1
    rw [← Int.mul_assoc] at k1 ⊢
    omega
  exact Int.lt_of_mul_lt_mul_right k3 (Int.le_of_lt hc)
/-- between p / q and the least price P / Q the tree stays -/
theorem zc_stay (hkd : ∀ k, S k = true ↔ kd k = 2) {p q P Q x y : Int} (hq : 0 < q) (hQ : 0 < Q) (hy : 0 < y) (hP : ∀ k, 1 ≤ k → k < 32 → zc_sh e S kd p q k = 2 → (zc_L e S p q k - 1) * P ≤ Q * (e k - zc_E e S p q k)) (h1 : p * y ≤ x * q) (h2 : x * Q < P * y) :
    ∀ k, 1 ≤ k → (k < 2 ∨ zc_sh e S kd p q (k / 2) = 2) → zc_C e S x y k = zc_E e S p q k * y + zc_L e S p q k * x ∧ zc_L e S x y k = zc_L e S p q k := by
  apply zc_ind
  intro k hk ih hsh
  by_cases h : zc_k e S p q k
  · have hr : zc_sh e S kd p q k = 2 := (zc_sh2 hkd hk).mpr ⟨h, hsh⟩
    have i1 := (ih h.1.2).1 (Or.inr (by rw [show 2 * k / 2 = k by omega]; exact hr))
    have i2 := (ih h.1.2).2 (Or.inr (by rw [show (2 * k + 1) / 2 = k by omega]; exact hr))
    have hL2 : 0 < zc_L e S p q k - 1 := by
      have a := zc_L_pos e S p q (2 * k) (by omega)
      have b := zc_L_pos e S p q (2 * k + 1) (by omega)
      rw [zc_L_k h]
      omega
    have hlt := zc_mul3 hQ (hP k hk h.1.2 hr) hL2 h2 hy
    have hsum : zc_C e S x y (2 * k) + zc_C e S x y (2 * k + 1) = zc_E e S p q k * y + zc_L e S p q k * x := by
      rw [i1.1, i2.1, zc_E_k h, zc_L_k h, Int.add_mul, Int.add_mul]
      omega
    have hk' : zc_k e S x y k := by
      refine ⟨h.1, h.2.1, ?_⟩
      rw [hsum]
      rw [Int.sub_mul, Int.sub_mul, Int.one_mul] at hlt
      omega
    rw [zc_C_k hk', hsum, zc_L_k hk', i1.2, i2.2, zc_L_k h]
    exact ⟨rfl, rfl⟩
  · have hn : ¬ zc_k e S x y k := fun q => h ((zc_mono e S hq hy h1 k hk).2 q)
    rw [zc_C_n hn, zc_L_n hn, zc_E_n h, zc_L_n h, Int.one_mul]
    exact ⟨rfl, rfl⟩
/-- at the least price the costs are still those of the tree -/
theorem zc_at (hkd : ∀ k, S k = true ↔ kd k = 2) {p q P Q : Int} (hq : 0 < q) (hQ : 0 < Q) (hP : ∀ k, 1 ≤ k → k < 32 → zc_sh e S kd p q k = 2 → (zc_L e S p q k - 1) * P ≤ Q * (e k - zc_E e S p q k)) (h1 : p * Q ≤ P * q) :
    ∀ k, 1 ≤ k → (k < 2 ∨ zc_sh e S kd p q (k / 2) = 2) → zc_C e S P Q k = zc_E e S p q k * Q + zc_L e S p q k * P := by
  apply zc_ind
  intro k hk ih hsh
  by_cases h : zc_k e S p q k
  · have hr : zc_sh e S kd p q k = 2 := (zc_sh2 hkd hk).mpr ⟨h, hsh⟩
    have i1 := (ih h.1.2).1 (Or.inr (by rw [show 2 * k / 2 = k by omega]; exact hr))
    have i2 := (ih h.1.2).2 (Or.inr (by rw [show (2 * k + 1) / 2 = k by omega]; exact hr))
    have hsum : zc_C e S P Q (2 * k) + zc_C e S P Q (2 * k + 1) = zc_E e S p q k * Q + zc_L e S p q k * P := by
      rw [i1, i2, zc_E_k h, zc_L_k h, Int.add_mul, Int.add_mul]
      omega
    by_cases hk' : zc_k e S P Q k
    · rw [zc_C_k hk', hsum]
    · rw [zc_C_n hk']
      have h3 := hP k hk h.1.2 hr
      have h4 : ¬ zc_C e S P Q (2 * k) + zc_C e S P Q (2 * k + 1) < e k * Q + P := fun z => hk' ⟨h.1, h.2.1, z⟩
      rw [hsum] at h4
      rw [Int.sub_mul, Int.one_mul, Int.mul_comm Q, Int.sub_mul] at h3
      omega
  · have hn : ¬ zc_k e S P Q k := fun z => h ((zc_mono e S hq hQ h1 k hk).2 z)
    rw [zc_C_n hn, zc_E_n h, zc_L_n h, Int.one_mul]
/-- there the tree has fewer leaves -/
theorem zc_less (hkd : ∀ k, S k = true ↔ kd k = 2) {p q P Q : Int} (hq : 0 < q) (hQ : 0 < Q) (hP : ∀ k, 1 ≤ k → k < 32 → zc_sh e S kd p q k = 2 → (zc_L e S p q k - 1) * P ≤ Q * (e k - zc_E e S p q k)) (h1 : p * Q ≤ P * q)
    {k0 : Nat} (g1 : 1 ≤ k0) (g2 : zc_sh e S kd p q k0 = 2) (g3 : (zc_L e S p q k0 - 1) * P = Q * (e k0 - zc_E e S p q k0)) : zc_L e S P Q 1 < zc_L e S p q 1 := by
  rcases Int.lt_or_le (zc_L e S P Q 1) (zc_L e S p q 1) with h | h
  · exact h
  · exfalso
    have hmono := zc_L_mono (e := e) (S := S) hq hQ h1
    have step : ∀ k, 1 ≤ k → zc_k e S p q k → zc_L e S P Q k = zc_L e S p q k → zc_k e S P Q k ∧ zc_L e S P Q (2 * k) = zc_L e S p q (2 * k) ∧ zc_L e S P Q (2 * k + 1) = zc_L e S p q (2 * k + 1) := by
      intro k hk hkp he
      have a := zc_L_pos e S p q (2 * k) (by omega)
      have b := zc_L_pos e S p q (2 * k + 1) (by omega)
      have hkP : zc_k e S P Q k := by
        apply Classical.byContradiction
        intro hn
        rw [zc_L_n hn, zc_L_k hkp] at he
        omega
      rw [zc_L_k hkP, zc_L_k hkp] at he
      have m1 := hmono (2 * k) (by omega)
      have m2 := hmono (2 * k + 1) (by omega)
      exact ⟨hkP, by omega, by omega⟩
    have all : ∀ n k, k ≤ n → 1 ≤ k → (k < 2 ∨ zc_sh e S kd p q (k / 2) = 2) → zc_L e S P Q k = zc_L e S p q k := by
      intro n
      induction n with
      | zero => intro k h1 h2; omega
      | succ n ih =>
        intro k k1 k2 k3
        by_cases hk : k < 2
        · have : k = 1 := by omega
          subst this
          have := hmono 1 (by omega)
          omega
        · rcases k3 with k3 | k3
          · omega
          · have hpar := (zc_sh2 hkd (show 1 ≤ k / 2 by omega)).mp k3
            have hp := ih (k / 2) (by omega) (by omega) hpar.2
            have hs := step (k / 2) (by omega) hpar.1 hp
            rcases (show k = 2 * (k / 2) ∨ k = 2 * (k / 2) + 1 by omega) with q | q
            · rw [q]; exact hs.2.1
            · rw [q]; exact hs.2.2
    have hk0 := (zc_sh2 hkd g1).mp g2
    have hk0P := (step k0 g1 hk0.1 (all k0 k0 (Nat.le_refl _) g1 hk0.2)).1
    have hC := zc_at hkd hq hQ hP h1 k0 g1 hk0.2
    have h5 := hk0P.2.2
    rw [← zc_C_k hk0P, hC] at h5
    rw [Int.sub_mul, Int.one_mul, Int.mul_comm Q, Int.sub_mul] at g3
    omega
/-- a break: lowest terms, and fewer leaves than just below -/
def zc_Br (e : Nat → Int) (S : Nat → Bool) (x y : Int) : Prop := (1 ≤ x ∧ x ≤ 16) ∧ (1 ≤ y ∧ y ≤ 15) ∧ Int.gcd x y = 1 ∧ zc_L e S x y 1 < zc_L e S (1000 * x - 1) (1000 * y) 1
/-- the next break behind p / q -/
def zc_nb (e : Nat → Int) (S : Nat → Bool) (p q x y : Int) : Prop := zc_Br e S x y ∧ p * y < x * q ∧ ∀ u v, zc_Br e S u v → p * v < u * q → x * v ≤ u * y
theorem zc_next (hkd : ∀ k, S k = true ↔ kd k = 2) {p q P Q : Int} (hp : 0 ≤ p) (hq : 0 < q ∧ q ≤ 15) (hPb : 1 ≤ P ∧ P ≤ 16) (hQb : 1 ≤ Q ∧ Q ≤ 15) (hg : Int.gcd P Q = 1) (hP : ∀ k, 1 ≤ k → k < 32 → zc_sh e S kd p q k = 2 → (zc_L e S p q k - 1) * P ≤ Q * (e k - zc_E e S p q k))
    {k0 : Nat} (g1 : 1 ≤ k0) (g2 : zc_sh e S kd p q k0 = 2) (g3 : (zc_L e S p q k0 - 1) * P = Q * (e k0 - zc_E e S p q k0)) : zc_nb e S p q P Q := by
  have hk0 := ((zc_sh2 hkd g1).mp g2).1
  have hlt : p * Q < P * q := by
    have h1 := zc_k_pr hk0
    have hL : 0 < zc_L e S p q k0 - 1 := by
      have a := zc_L_pos e S p q (2 * k0) (by omega)
      have b := zc_L_pos e S p q (2 * k0 + 1) (by omega)
      rw [zc_L_k hk0]
      omega
    have h2 : (zc_L e S p q k0 - 1) * p * Q < (e k0 - zc_E e S p q k0) * q * Q := Int.mul_lt_mul_of_pos_right h1 (by omega)
    have h3 : (e k0 - zc_E e S p q k0) * q * Q = (zc_L e S p q k0 - 1) * (P * q) := by
      rw [← Int.mul_assoc, g3, Int.mul_comm Q, Int.mul_right_comm]
    rw [h3, Int.mul_assoc] at h2
    exact Int.lt_of_mul_lt_mul_left h2 (Int.le_of_lt hL)
  have stay : ∀ x y : Int, 0 < y → p * y ≤ x * q → x * Q < P * y → zc_L e S x y 1 = zc_L e S p q 1 := fun x y hy a b => (zc_stay hkd hq.1 (by omega) hy hP a b 1 (by omega) (Or.inl (by omega))).2
  have just : ∀ x y : Int, 0 < y → p * y < x * q → p * (1000 * y) ≤ (1000 * x - 1) * q := by
    intro x y hy h
    have e1 : p * (1000 * y) = 1000 * (p * y) := by rw [Int.mul_left_comm]
    have e2 : (1000 * x - 1) * q = 1000 * (x * q) - q := by rw [Int.sub_mul, Int.one_mul, Int.mul_assoc]
    rw [e1, e2]
    omega
  refine ⟨⟨hPb, hQb, hg, ?_⟩, hlt, ?_⟩
  · have hl := zc_less hkd hq.1 (by omega) hP (Int.le_of_lt hlt) g1 g2 g3
    rw [stay (1000 * P - 1) (1000 * Q) (by omega) (just P Q (by omega) hlt) ?_]
    · exact hl
    · have e1 : (1000 * P - 1) * Q = 1000 * (P * Q) - Q := by rw [Int.sub_mul, Int.one_mul, Int.mul_assoc]
      have e2 : P * (1000 * Q) = 1000 * (P * Q) := by rw [Int.mul_left_comm]
      rw [e1, e2]
      omega
  · intro u v hb huv
    rcases Int.lt_or_le (u * Q) (P * v) with h | h
    · exfalso
      obtain ⟨b1, b2, b3, b4⟩ := hb
      rw [stay u v (by omega) (Int.le_of_lt huv) h, stay (1000 * u - 1) (1000 * v) (by omega) (just u v (by omega) huv) ?_] at b4
      · omega
      · have e1 : (1000 * u - 1) * Q = 1000 * (u * Q) - Q := by rw [Int.sub_mul, Int.one_mul, Int.mul_assoc]
        have e2 : P * (1000 * v) = 1000 * (P * v) := by rw [Int.mul_left_comm]
        rw [e1, e2]
        omega
    · exact h
theorem zc_last (hkd : ∀ k, S k = true ↔ kd k = 2) {p q : Int} (hq : 0 < q ∧ q ≤ 15) (h : ¬ zc_sh e S kd p q 1 = 2) : ∀ u v, zc_Br e S u v → ¬ p * v < u * q := by
  intro u v hb huv
  obtain ⟨b1, b2, b3, b4⟩ := hb
  have hn : ¬ zc_k e S p q 1 := fun z => h ((zc_sh2 hkd (by omega)).mpr ⟨z, Or.inl (by omega)⟩)
  have one : ∀ x y : Int, 0 < y → p * y ≤ x * q → zc_L e S x y 1 = 1 := fun x y hy a => zc_L_n (fun z => hn ((zc_mono e S hq.1 hy a 1 (by omega)).2 z))
  have e1 : p * (1000 * v) = 1000 * (p * v) := by rw [Int.mul_left_comm]
  have e2 : (1000 * u - 1) * q = 1000 * (u * q) - q := by rw [Int.sub_mul, Int.one_mul, Int.mul_assoc]
  rw [one u v (by omega) (Int.le_of_lt huv), one (1000 * u - 1) (1000 * v) (by omega) (by rw [e1, e2]; omega)] at b4
  omega
/-- the break with number m -/
def zc_kt (e : Nat → Int) (S : Nat → Bool) : Nat → Int → Int → Prop
  | 0, x, y => zc_nb e S 0 1 x y
  | m + 1, x, y => ∃ p q, zc_kt e S m p q ∧ zc_nb e S p q x y
theorem zc_kt_no {m : Nat} (h : ∀ x y, ¬ zc_kt e S m x y) : ∀ i, m ≤ i → ∀ x y, ¬ zc_kt e S i x y := by
  intro i
  induction i with
  | zero => intro hi x y; rw [show (0 : Nat) = m by omega]; exact h x y
  | succ i ih =>
    intro hi x y
    by_cases q : m = i + 1
    · rw [← q]; exact h x y
    · rintro ⟨p, q, h1, -⟩
      exact ih (by omega) p q h1
end ZT16

