/-! the best split: what is asked of it, apart from any program -/
/-- values, classes, weights, rows -/
abbrev zx_τ : Type := (Nat → Nat → Int) × (Nat → Int) × (Nat → Int) × Nat
def zx_ps (τ : zx_τ) (s f : Nat) : Nat := zt_pres τ.1 s f τ.2.2.2
def zx_sl (τ : zx_τ) (p f : Nat) (t : Int) : Nat := zt_upto τ.1 p f t τ.2.2.2
def zx_sr (τ : zx_τ) (p f : Nat) (t : Int) : Nat := zb_df p (zx_sl τ p f t)
def zx_L (τ : zx_τ) (s f : Nat) (t : Int) : Int := zt_w τ.2.2.1 (zx_sl τ (zx_ps τ s f) f t) τ.2.2.2
def zx_R (τ : zx_τ) (s f : Nat) (t : Int) : Int := zt_w τ.2.2.1 (zx_sr τ (zx_ps τ s f) f t) τ.2.2.2
def zx_X (τ : zx_τ) (s f : Nat) (t : Int) : Nat → Int := zt_ms τ.2.1 τ.2.2.1 (zx_sl τ (zx_ps τ s f) f t) τ.2.2.2
def zx_Y (τ : zx_τ) (s f : Nat) (t : Int) : Nat → Int := zt_ms τ.2.1 τ.2.2.1 (zx_sr τ (zx_ps τ s f) f t) τ.2.2.2
def zx_T (τ : zx_τ) (cr : Int) (s f : Nat) (t : Int) : Int := zx_top cr (zx_X τ s f t) (zx_Y τ s f t) (zx_L τ s f t) (zx_R τ s f t)
def zx_B (τ : zx_τ) (cr : Int) (s f : Nat) (t : Int) : Int := zx_bot cr (zx_L τ s f t) (zx_R τ s f t)
def zx_vl (τ : zx_τ) (p f : Nat) (x : Int) : Prop := ∃ r, r < τ.2.2.2 ∧ p.testBit r = true ∧ τ.1 r f = x
/-- t lies between neighbouring values -/
def zx_cut (τ : zx_τ) (p f : Nat) (t : Int) : Prop := ∃ u v : Int, zx_vl τ p f u ∧ zx_vl τ p f v ∧ u < v ∧ (∀ x, zx_vl τ p f x → ¬ (u < x ∧ x < v)) ∧ t = (u + v) / 2
def zx_ok (τ : zx_τ) (lf : Int) (s f : Nat) (t : Int) : Prop := zx_cut τ (zx_ps τ s f) f t ∧ lf ≤ zx_L τ s f t ∧ lf ≤ zx_R τ s f t
theorem zl_le {g : Nat → Int} {d : Nat} (hS : zl_S g d) {i j : Nat} (h : i ≤ j) (hj : j < d) : g i ≤ g j := by
  by_cases e : i = j
  · subst e; exact Int.le_refl _
  · exact Int.le_of_lt (hS.1 i j (by omega) hj)
theorem zx_cut_l {τ : zx_τ} {p f d : Nat} {g : Nat → Int} (hS : zl_S g d) (hin : ∀ x, zl_in g d x ↔ zx_vl τ p f x) (t : Int) : zx_cut τ p f t ↔ ∃ i, i + 1 < d ∧ t = (g i + g (i + 1)) / 2 := by
  constructor
  · rintro ⟨u, v, hu, hv, huv, hno, rfl⟩
    obtain ⟨i, hi, rfl⟩ := (hin u).mpr hu
    obtain ⟨j, hj, rfl⟩ := (hin v).mpr hv
    have hij : i < j := by
      rcases Nat.lt_or_ge i j with h | h
      · exact h
      · have := zl_le hS h hi
        omega
    have hj2 : j = i + 1 := by
      rcases Nat.lt_or_ge (i + 1) j with h | h
      · exact absurd ⟨hS.1 i (i + 1) (by omega) (by omega), hS.1 (i + 1) j h hj⟩ (hno _ ((hin _).mp ⟨i + 1, by omega, rfl⟩))
      · omega
    subst hj2
    exact ⟨i, hj, rfl⟩
  · rintro ⟨i, hi, rfl⟩
    refine ⟨g i, g (i + 1), (hin _).mp ⟨i, by omega, rfl⟩, (hin _).mp ⟨i + 1, hi, rfl⟩, hS.1 _ _ (by omega) hi, ?_, rfl⟩
    intro x hx hh
    obtain ⟨j, hj, rfl⟩ := (hin x).mpr hx
    rcases Nat.lt_or_ge i j with h | h
    · have := zl_le hS (show i + 1 ≤ j by omega) hj
      omega
    · have := zl_le hS h (show i < d by omega)
      omega
theorem zx_cut_lt {g : Nat → Int} {d i j : Nat} (hS : zl_S g d) (hij : i < j) (hj : j + 1 < d) : (g i + g (i + 1)) / 2 < (g j + g (j + 1)) / 2 := by
  have h1 := hS.1 i (i + 1) (by omega) (by omega)
  have h2 := hS.1 j (j + 1) (by omega) hj
  have h3 := zl_le hS (show i + 1 ≤ j by omega) (by omega)
  omega
theorem zx_cut_b {g : Nat → Int} {d i : Nat} (hS : zl_S g d) (hi : i + 1 < d) : -2147483648 ≤ (g i + g (i + 1)) / 2 ∧ (g i + g (i + 1)) / 2 < 2147483648 := by
  have h1 := hS.2 i (by omega)
  have h2 := hS.2 (i + 1) hi
  omega
/-! ### fractions -/
theorem zx_cross {t b t0 b0 : Nat} (hb : 0 < b) (hb0 : 0 < b0) : (((t0 / Nat.gcd t0 b0 : Nat) : Int) * ((b / Nat.gcd t b : Nat) : Int) < ((t / Nat.gcd t b : Nat) : Int) * ((b0 / Nat.gcd t0 b0 : Nat) : Int)) ↔ ((t0 : Int) * b < (t : Int) * b0) := by
  have hg : 0 < Nat.gcd t b := Nat.gcd_pos_of_pos_right _ hb
  have hg0 : 0 < Nat.gcd t0 b0 := Nat.gcd_pos_of_pos_right _ hb0
  have e1 : Nat.gcd t b * (t / Nat.gcd t b) = t := Nat.mul_div_cancel' (Nat.gcd_dvd_left t b)
  have e2 : Nat.gcd t b * (b / Nat.gcd t b) = b := Nat.mul_div_cancel' (Nat.gcd_dvd_right t b)
  have e3 : Nat.gcd t0 b0 * (t0 / Nat.gcd t0 b0) = t0 := Nat.mul_div_cancel' (Nat.gcd_dvd_left t0 b0)
  have e4 : Nat.gcd t0 b0 * (b0 / Nat.gcd t0 b0) = b0 := Nat.mul_div_cancel' (Nat.gcd_dvd_right t0 b0)
  generalize t / Nat.gcd t b = x at *
  generalize b / Nat.gcd t b = y at *
  generalize t0 / Nat.gcd t0 b0 = x0 at *
  generalize b0 / Nat.gcd t0 b0 = y0 at *
  generalize Nat.gcd t b = g at *
  generalize Nat.gcd t0 b0 = g0 at *
  subst e1 e2 e3 e4
  have k1 : ((g0 * x0 : Nat) : Int) * ((g * y : Nat) : Int) = ((g0 * g : Nat) : Int) * ((x0 : Int) * y) := by
    simp only [Int.natCast_mul, Int.mul_assoc, Int.mul_comm, Int.mul_left_comm]
  have k2 : ((g * x : Nat) : Int) * ((g0 * y0 : Nat) : Int) = ((g0 * g : Nat) : Int) * ((x : Int) * y0) := by
    simp only [Int.natCast_mul, Int.mul_assoc, Int.mul_comm, Int.mul_left_comm]
  rw [k1, k2]
  have hgg : (0 : Int) < ((g0 * g : Nat) : Int) := by have := Nat.mul_pos hg0 hg; omega
  constructor
  · intro h; exact Int.mul_lt_mul_of_pos_left h hgg
  · intro h; exact Int.lt_of_mul_lt_mul_left h (Int.le_of_lt hgg)
theorem zx_tr {a b c d e f : Int} (hb : 0 < b) (hd : 0 < d) (hf : 0 < f) (h1 : a * d ≤ c * b) (h2 : c * f < e * d) : a * f < e * b := by
  have k1 : a * d * f ≤ c * b * f := Int.mul_le_mul_of_nonneg_right h1 (Int.le_of_lt hf)
  have k2 : c * f * b < e * d * b := Int.mul_lt_mul_of_pos_right h2 hb
  have k3 : c * b * f = c * f * b := Int.mul_right_comm c b f
  have k4 : a * f * d < e * b * d := by
    rw [Int.mul_right_comm a f d, Int.mul_right_comm e b d]
    omega
  exact Int.lt_of_mul_lt_mul_right k4 (Int.le_of_lt hd)
/-- what has been found among the candidates C: in the fraction at b + 1 and in the node at b -/
def zx_bs (τ : zx_τ) (cr : Int) (s : Nat) (C : Nat → Int → Prop) (W : zg_V) (b : Nat) : Prop :=
  (W (b + 1) 0 = 0 ∧ W (b + 1) 1 = 1 ∧ ∀ f t, C f t → zx_T τ cr s f t = 0) ∨
  ∃ (f0 : Nat) (t0 : Int), C f0 t0 ∧ 0 < zx_T τ cr s f0 t0 ∧ W (b + 1) 0 = (((zx_T τ cr s f0 t0).toNat / Nat.gcd (zx_T τ cr s f0 t0).toNat (zx_B τ cr s f0 t0).toNat : Nat) : Int) ∧ W (b + 1) 1 = (((zx_B τ cr s f0 t0).toNat / Nat.gcd (zx_T τ cr s f0 t0).toNat (zx_B τ cr s f0 t0).toNat : Nat) : Int) ∧
    W b 3 = (f0 : Int) ∧ W b 4 = t0 ∧ W b 6 = zg_b (decide (zx_R τ s f0 t0 ≤ zx_L τ s f0 t0)) ∧
    ∀ f t, C f t → zx_T τ cr s f t * zx_B τ cr s f0 t0 ≤ zx_T τ cr s f0 t0 * zx_B τ cr s f t ∧ (zx_T τ cr s f t * zx_B τ cr s f0 t0 = zx_T τ cr s f0 t0 * zx_B τ cr s f t → f0 < f ∨ (f0 = f ∧ t0 ≤ t))
theorem zx_bs_iff {τ : zx_τ} {cr : Int} {s b : Nat} {C C' : Nat → Int → Prop} {W : zg_V} (h : ∀ f t, C f t ↔ C' f t) (hb : zx_bs τ cr s C W b) : zx_bs τ cr s C' W b := by
  have e : C = C' := funext fun f => funext fun t => propext (h f t)
  rw [← e]; exact hb
theorem zx_bs_fr {τ : zx_τ} {cr : Int} {s b : Nat} {C : Nat → Int → Prop} {W W' : zg_V} (h1 : W' (b + 1) = W (b + 1)) (h2 : W' b = W b) (hb : zx_bs τ cr s C W b) : zx_bs τ cr s C W' b := by
  unfold zx_bs
  rw [h1, h2]
  exact hb
/-- a candidate behind all the others, not better: nothing changes -/
theorem zx_bs_skip {τ : zx_τ} {cr : Int} {s b f : Nat} {t : Int} {C C' : Nat → Int → Prop} {W : zg_V} (hb : zx_bs τ cr s C W b) (hC : ∀ f' t', C' f' t' ↔ C f' t' ∨ (f' = f ∧ t' = t)) (hlast : ∀ f' t', C f' t' → f' < f ∨ (f' = f ∧ t' < t))
    (hpos : ∀ f' t', C' f' t' → 0 ≤ zx_T τ cr s f' t' ∧ 0 < zx_B τ cr s f' t')
    (hcmp : ¬ W (b + 1) 0 * (((zx_B τ cr s f t).toNat / Nat.gcd (zx_T τ cr s f t).toNat (zx_B τ cr s f t).toNat : Nat) : Int) < (((zx_T τ cr s f t).toNat / Nat.gcd (zx_T τ cr s f t).toNat (zx_B τ cr s f t).toNat : Nat) : Int) * W (b + 1) 1) : zx_bs τ cr s C' W b := by
  have hp := hpos f t ((hC f t).mpr (Or.inr ⟨rfl, rfl⟩))
  rcases hb with ⟨h1, h2, h3⟩ | ⟨f0, t0, g1, g2, g3, g4, g5, g6, g7, g8⟩
  · refine Or.inl ⟨h1, h2, fun f' t' h => ?_⟩
    rcases (hC f' t').mp h with h | ⟨rfl, rfl⟩
    · exact h3 f' t' h
    · rw [h1, h2, Int.zero_mul, Int.mul_one] at hcmp
      have hg : 0 < Nat.gcd (zx_T τ cr s f' t').toNat (zx_B τ cr s f' t').toNat := Nat.gcd_pos_of_pos_right _ (by omega)
      have e1 : Nat.gcd (zx_T τ cr s f' t').toNat (zx_B τ cr s f' t').toNat * ((zx_T τ cr s f' t').toNat / Nat.gcd (zx_T τ cr s f' t').toNat (zx_B τ cr s f' t').toNat) = (zx_T τ cr s f' t').toNat := Nat.mul_div_cancel' (Nat.gcd_dvd_left _ _)
      generalize (zx_T τ cr s f' t').toNat / Nat.gcd (zx_T τ cr s f' t').toNat (zx_B τ cr s f' t').toNat = q at hcmp e1
      have e0 : q = 0 := by omega
      rw [e0, Nat.mul_zero] at e1
      omega
  · have hp0 := hpos f0 t0 ((hC f0 t0).mpr (Or.inl g1))
    refine Or.inr ⟨f0, t0, (hC f0 t0).mpr (Or.inl g1), g2, g3, g4, g5, g6, g7, fun f' t' h => ?_⟩
    rcases (hC f' t').mp h with h | ⟨rfl, rfl⟩
    · exact g8 f' t' h
    · rw [g3, g4, zx_cross (by omega) (by omega)] at hcmp
      have z1 : ((zx_T τ cr s f' t').toNat : Int) = zx_T τ cr s f' t' := by omega
      have z2 : ((zx_B τ cr s f' t').toNat : Int) = zx_B τ cr s f' t' := by omega
      have z3 : ((zx_T τ cr s f0 t0).toNat : Int) = zx_T τ cr s f0 t0 := by omega
      have z4 : ((zx_B τ cr s f0 t0).toNat : Int) = zx_B τ cr s f0 t0 := by omega
      rw [z1, z2, z3, z4] at hcmp
      refine ⟨by omega, fun _ => ?_⟩
      rcases hlast f0 t0 g1 with q | ⟨q1, q2⟩
      · exact Or.inl q
      · exact Or.inr ⟨q1, by omega⟩
/-- a candidate behind all the others, better: it is taken -/
theorem zx_bs_take {τ : zx_τ} {cr : Int} {s b f : Nat} {t : Int} {C C' : Nat → Int → Prop} {W W' : zg_V} (hb : zx_bs τ cr s C W b) (hC : ∀ f' t', C' f' t' ↔ C f' t' ∨ (f' = f ∧ t' = t))
    (hpos : ∀ f' t', C' f' t' → 0 ≤ zx_T τ cr s f' t' ∧ 0 < zx_B τ cr s f' t')
    (hcmp : W (b + 1) 0 * (((zx_B τ cr s f t).toNat / Nat.gcd (zx_T τ cr s f t).toNat (zx_B τ cr s f t).toNat : Nat) : Int) < (((zx_T τ cr s f t).toNat / Nat.gcd (zx_T τ cr s f t).toNat (zx_B τ cr s f t).toNat : Nat) : Int) * W (b + 1) 1)
    (w0 : W' (b + 1) 0 = (((zx_T τ cr s f t).toNat / Nat.gcd (zx_T τ cr s f t).toNat (zx_B τ cr s f t).toNat : Nat) : Int)) (w1 : W' (b + 1) 1 = (((zx_B τ cr s f t).toNat / Nat.gcd (zx_T τ cr s f t).toNat (zx_B τ cr s f t).toNat : Nat) : Int))
    (w3 : W' b 3 = (f : Int)) (w4 : W' b 4 = t) (w6 : W' b 6 = zg_b (decide (zx_R τ s f t ≤ zx_L τ s f t))) : zx_bs τ cr s C' W' b := by
  have hp := hpos f t ((hC f t).mpr (Or.inr ⟨rfl, rfl⟩))
  have self : ∀ f' t', (f' = f ∧ t' = t) → zx_T τ cr s f' t' * zx_B τ cr s f t ≤ zx_T τ cr s f t * zx_B τ cr s f' t' ∧ (zx_T τ cr s f' t' * zx_B τ cr s f t = zx_T τ cr s f t * zx_B τ cr s f' t' → f < f' ∨ (f = f' ∧ t ≤ t')) := by
    rintro f' t' ⟨rfl, rfl⟩
    exact ⟨Int.le_refl _, fun _ => Or.inr ⟨rfl, Int.le_refl _⟩⟩
  rcases hb with ⟨h1, h2, h3⟩ | ⟨f0, t0, g1, g2, g3, g4, g5, g6, g7, g8⟩
  · rw [h1, h2, Int.zero_mul, Int.mul_one] at hcmp
    have hT : 0 < zx_T τ cr s f t := by
      rcases Int.lt_or_le 0 (zx_T τ cr s f t) with q | q
      · exact q
      · have : (zx_T τ cr s f t).toNat = 0 := by omega
        rw [this, Nat.zero_div] at hcmp
        omega
    refine Or.inr ⟨f, t, (hC f t).mpr (Or.inr ⟨rfl, rfl⟩), hT, w0, w1, w3, w4, w6, fun f' t' h => ?_⟩
    rcases (hC f' t').mp h with h' | h'
    · have hp' := hpos f' t' h
      rw [h3 f' t' h', Int.zero_mul]
      have := Int.mul_pos hT hp'.2
      exact ⟨Int.le_of_lt this, fun q => by omega⟩
    · exact self f' t' h'
  · have hp0 := hpos f0 t0 ((hC f0 t0).mpr (Or.inl g1))
    rw [g3, g4, zx_cross (by omega) (by omega)] at hcmp
    have z1 : ((zx_T τ cr s f t).toNat : Int) = zx_T τ cr s f t := by omega
    have z2 : ((zx_B τ cr s f t).toNat : Int) = zx_B τ cr s f t := by omega
    have z3 : ((zx_T τ cr s f0 t0).toNat : Int) = zx_T τ cr s f0 t0 := by omega
    have z4 : ((zx_B τ cr s f0 t0).toNat : Int) = zx_B τ cr s f0 t0 := by omega
    rw [z1, z2, z3, z4] at hcmp
    have hT : 0 < zx_T τ cr s f t := by
      have h5 := Int.mul_pos g2 hp.2
      rcases Int.lt_or_le 0 (zx_T τ cr s f t) with q | q
      · exact q
      · have h6 : zx_T τ cr s f t = 0 := by omega
        rw [h6, Int.zero_mul] at hcmp
        omega
    refine Or.inr ⟨f, t, (hC f t).mpr (Or.inr ⟨rfl, rfl⟩), hT, w0, w1, w3, w4, w6, fun f' t' h => ?_⟩
    rcases (hC f' t').mp h with h' | h'
    · have hp' := hpos f' t' h
      have := zx_tr hp'.2 hp0.2 hp.2 (g8 f' t' h').1 hcmp
      exact ⟨Int.le_of_lt this, fun q => by omega⟩
    · exact self f' t' h'

