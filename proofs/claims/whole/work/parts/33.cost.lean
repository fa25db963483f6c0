/-! Pure rows: cutting by cost; e: errors, S: the nodes that are split -/
def zc_C (e : Nat → Int) (S : Nat → Bool) (p q : Int) (k : Nat) : Int :=
  if _h : 1 ≤ k ∧ k < 32 then
    (if S k = true ∧ zc_C e S p q (2 * k) + zc_C e S p q (2 * k + 1) < e k * q + p then zc_C e S p q (2 * k) + zc_C e S p q (2 * k + 1) else e k * q + p)
  else e k * q + p
termination_by 32 - k
/-- node k stays split at p / q -/
def zc_k (e : Nat → Int) (S : Nat → Bool) (p q : Int) (k : Nat) : Prop := (1 ≤ k ∧ k < 32) ∧ S k = true ∧ zc_C e S p q (2 * k) + zc_C e S p q (2 * k + 1) < e k * q + p
theorem zc_C_k {e : Nat → Int} {S : Nat → Bool} {p q : Int} {k : Nat} (h : zc_k e S p q k) : zc_C e S p q k = zc_C e S p q (2 * k) + zc_C e S p q (2 * k + 1) := by
  rw [zc_C, dif_pos h.1, if_pos h.2]
theorem zc_C_n {e : Nat → Int} {S : Nat → Bool} {p q : Int} {k : Nat} (h : ¬ zc_k e S p q k) : zc_C e S p q k = e k * q + p := by
  rw [zc_C]
  by_cases h1 : 1 ≤ k ∧ k < 32
  · rw [dif_pos h1, if_neg (fun h2 => h ⟨h1, h2⟩)]
  · rw [dif_neg h1]
theorem zc_C_le {e : Nat → Int} {S : Nat → Bool} {p q : Int} {k : Nat} : zc_C e S p q k ≤ e k * q + p := by
  by_cases h : zc_k e S p q k
  · rw [zc_C_k h]; have := h.2.2; omega
  · rw [zc_C_n h]; exact Int.le_refl _
noncomputable def zc_L (e : Nat → Int) (S : Nat → Bool) (p q : Int) (k : Nat) : Int :=
  if h : 1 ≤ k ∧ k < 32 ∧ S k = true ∧ zc_C e S p q (2 * k) + zc_C e S p q (2 * k + 1) < e k * q + p then zc_L e S p q (2 * k) + zc_L e S p q (2 * k + 1) else 1
termination_by 32 - k
noncomputable def zc_E (e : Nat → Int) (S : Nat → Bool) (p q : Int) (k : Nat) : Int :=
  if h : 1 ≤ k ∧ k < 32 ∧ S k = true ∧ zc_C e S p q (2 * k) + zc_C e S p q (2 * k + 1) < e k * q + p then zc_E e S p q (2 * k) + zc_E e S p q (2 * k + 1) else e k
termination_by 32 - k
theorem zc_L_k {e : Nat → Int} {S : Nat → Bool} {p q : Int} {k : Nat} (h : zc_k e S p q k) : zc_L e S p q k = zc_L e S p q (2 * k) + zc_L e S p q (2 * k + 1) := by
  rw [zc_L, dif_pos ⟨h.1.1, h.1.2, h.2⟩]
theorem zc_L_n {e : Nat → Int} {S : Nat → Bool} {p q : Int} {k : Nat} (h : ¬ zc_k e S p q k) : zc_L e S p q k = 1 := by
  rw [zc_L, dif_neg (fun g => h ⟨⟨g.1, g.2.1⟩, g.2.2⟩)]
theorem zc_E_k {e : Nat → Int} {S : Nat → Bool} {p q : Int} {k : Nat} (h : zc_k e S p q k) : zc_E e S p q k = zc_E e S p q (2 * k) + zc_E e S p q (2 * k + 1) := by
  rw [zc_E, dif_pos ⟨h.1.1, h.1.2, h.2⟩]
theorem zc_E_n {e : Nat → Int} {S : Nat → Bool} {p q : Int} {k : Nat} (h : ¬ zc_k e S p q k) : zc_E e S p q k = e k := by
  rw [zc_E, dif_neg (fun g => h ⟨⟨g.1, g.2.1⟩, g.2.2⟩)]
/-- downward induction on the nodes -/
theorem zc_ind {M : Nat → Prop} (h : ∀ k, 1 ≤ k → (k < 32 → M (2 * k) ∧ M (2 * k + 1)) → M k) : ∀ k, 1 ≤ k → M k := by
  have key : ∀ n k, 1 ≤ k → 32 - k ≤ n → M k := by
    intro n
    induction n with
    | zero => intro k hk hn; exact h k hk (fun h2 => by omega)
    | succ n ih => intro k hk hn; exact h k hk (fun h2 => ⟨ih _ (by omega) (by omega), ih _ (by omega) (by omega)⟩)
  intro k hk
  exact key (32 - k) k hk (Nat.le_refl _)
theorem zc_L_pos (e : Nat → Int) (S : Nat → Bool) (p q : Int) : ∀ k, 1 ≤ k → 1 ≤ zc_L e S p q k := by
  apply zc_ind
  intro k hk ih
  by_cases h : zc_k e S p q k
  · rw [zc_L_k h]
    have := ih h.1.2
    omega
  · rw [zc_L_n h]; exact Int.le_refl _
/-- cost = errors and leaves below -/
theorem zc_C_eq (e : Nat → Int) (S : Nat → Bool) (p q : Int) : ∀ k, 1 ≤ k → zc_C e S p q k = zc_E e S p q k * q + zc_L e S p q k * p := by
  apply zc_ind
  intro k hk ih
  by_cases h : zc_k e S p q k
  · have := ih h.1.2
    rw [zc_C_k h, zc_E_k h, zc_L_k h, this.1, this.2, Int.add_mul, Int.add_mul]
    omega
  · rw [zc_C_n h, zc_E_n h, zc_L_n h, Int.one_mul]
/-- what is cut stays cut at a greater price -/
theorem zc_mono (e : Nat → Int) (S : Nat → Bool) {p q p' q' : Int} (hq : 0 < q) (hq' : 0 < q') (hle : p * q' ≤ p' * q) : ∀ k, 1 ≤ k → zc_C e S p q k * q' + (p' * q - p * q') ≤ zc_C e S p' q' k * q ∧ (zc_k e S p' q' k → zc_k e S p q k) := by
  apply zc_ind
  intro k hk ih
  have hkey : zc_k e S p' q' k → zc_k e S p q k := by
    intro h
    obtain ⟨⟨i1, -⟩, i2, -⟩ := ih h.1.2
    refine ⟨h.1, h.2.1, ?_⟩
    have h3 := h.2.2
    have h4 : (zc_C e S p' q' (2 * k) + zc_C e S p' q' (2 * k + 1)) * q < (e k * q' + p') * q := Int.mul_lt_mul_of_pos_right h3 hq
    have h5 : (zc_C e S p q (2 * k) + zc_C e S p q (2 * k + 1)) * q' < (e k * q + p) * q' := by
      rw [Int.add_mul] at h4 ⊢
      rw [Int.add_mul] at h4 ⊢
      rw [Int.mul_right_comm (e k) q' q] at h4
      omega
    exact Int.lt_of_mul_lt_mul_right h5 (Int.le_of_lt hq')
  refine ⟨?_, hkey⟩
  by_cases h : zc_k e S p' q' k
  · obtain ⟨⟨i1, -⟩, i2, -⟩ := ih h.1.2
    rw [zc_C_k h, zc_C_k (hkey h), Int.add_mul, Int.add_mul]
    omega
  · rw [zc_C_n h]
    have h1 : zc_C e S p q k * q' ≤ (e k * q + p) * q' := Int.mul_le_mul_of_nonneg_right zc_C_le (Int.le_of_lt hq')
    rw [Int.add_mul] at h1 ⊢
    rw [Int.mul_right_comm (e k) q q'] at h1
    omega
