/-! the reference: seek -/
abbrev zr_τ (V : zg_V) (n : Nat) : zx_τ := (zr_va V, V 225, V 226, n)
theorem zt_w_df {w : Nat → Int} {a b n : Nat} (h : ∀ r, r < n → b.testBit r = true → a.testBit r = true) : zt_w w b n + zt_w w (zb_df a b) n = zt_w w a n := by
  unfold zt_w
  rw [← zs_sum_add]
  apply zs_sum_congr
  intro i hi
  have := h i hi
  rw [zb_df_bit]
  cases hb : b.testBit i <;> cases ha : a.testBit i <;> simp_all
theorem zt_ms_or {cl w : Nat → Int} {a b n : Nat} (h : ∀ r, r < n → a.testBit r = true → b.testBit r = false) (c : Nat) : zt_ms cl w (a ||| b) n c = zt_ms cl w a n c + zt_ms cl w b n c := by
  rw [zt_ms_sum, zt_ms_sum, zt_ms_sum, ← zs_sum_add]
  apply zs_sum_congr
  intro i hi
  have := h i hi
  rw [Nat.testBit_or]
  cases hb : b.testBit i <;> cases ha : a.testBit i <;> simp_all
theorem zr_nx_iff {va : Nat → Nat → Int} {s f i j n : Nat} : zr_nx va s f i j n = true ↔ s.testBit i = true ∧ s.testBit j = true ∧ va i f < va j f ∧ ∀ r, r < n → s.testBit r = true → ¬ (va i f < va r f ∧ va r f < va j f) := by
  unfold zr_nx
  rw [Bool.and_eq_true, Bool.and_eq_true, Bool.and_eq_true, zr_fr_iff, decide_eq_true_iff]
  constructor
  · rintro ⟨h1, h2, h3, h4⟩
    refine ⟨h1, h2, h3, fun r hr hb hh => ?_⟩
    have := h4 r hr
    rw [hb, decide_eq_true hh] at this
    cases this
  · rintro ⟨h1, h2, h3, h4⟩
    refine ⟨h1, h2, h3, fun r hr => ?_⟩
    cases hb : s.testBit r
    · rfl
    · rw [decide_eq_false (h4 r hr hb)]
      rfl
theorem zr_cut_iff {τ : zx_τ} {p f : Nat} {t : Int} : zx_cut τ p f t ↔ ∃ i j, i < τ.2.2.2 ∧ j < τ.2.2.2 ∧ zr_nx τ.1 p f i j τ.2.2.2 = true ∧ t = (τ.1 i f + τ.1 j f) / 2 := by
  constructor
  · rintro ⟨u, v, ⟨i, i1, i2, rfl⟩, ⟨j, j1, j2, rfl⟩, huv, hno, rfl⟩
    exact ⟨i, j, i1, j1, zr_nx_iff.mpr ⟨i2, j2, huv, fun r hr hb => hno _ ⟨r, hr, hb, rfl⟩⟩, rfl⟩
  · rintro ⟨i, j, i1, j1, h, rfl⟩
    obtain ⟨h1, h2, h3, h4⟩ := zr_nx_iff.mp h
    exact ⟨_, _, ⟨i, i1, h1, rfl⟩, ⟨j, j1, h2, rfl⟩, h3, fun x ⟨r, r1, r2, r3⟩ => by rw [← r3]; exact h4 r r1 r2, rfl⟩
theorem zx_tq {a b c d e f : Int} (hd : 0 < d) (hf : 0 < f) (h : c * f = e * d) : (a * d ≤ c * b ↔ a * f ≤ e * b) ∧ (a * d = c * b ↔ a * f = e * b) := by
  have k1 : c * b * f = e * b * d := by rw [Int.mul_right_comm c b f, h, Int.mul_right_comm]
  have k2 : a * d * f = a * f * d := Int.mul_right_comm _ _ _
  refine ⟨⟨fun q => ?_, fun q => ?_⟩, ⟨fun q => ?_, fun q => ?_⟩⟩
  · have := Int.mul_le_mul_of_nonneg_right q (Int.le_of_lt hf)
    rw [k1, k2] at this
    exact Int.le_of_mul_le_mul_right this hd
  · have := Int.mul_le_mul_of_nonneg_right q (Int.le_of_lt hd)
    rw [← k1, ← k2] at this
    exact Int.le_of_mul_le_mul_right this hf
  · have : a * d * f = c * b * f := by rw [q]
    rw [k1, k2] at this
    exact Int.eq_of_mul_eq_mul_right (by omega) this
  · have : a * f * d = e * b * d := by rw [q]
    rw [← k1, ← k2] at this
    exact Int.eq_of_mul_eq_mul_right (by omega) this
/-- what has been found among the candidates C -/
def zr_bs (τ : zx_τ) (cr : Int) (s : Nat) (C : Nat → Int → Prop) (T0 B0 F tb : Int) : Prop :=
  (T0 = 0 ∧ B0 = 1 ∧ F = -1 ∧ ∀ f t, C f t → zx_T τ cr s f t = 0) ∨
  ∃ (f0 : Nat) (t0 : Int), C f0 t0 ∧ 0 < zx_T τ cr s f0 t0 ∧ T0 = zx_T τ cr s f0 t0 ∧ B0 = zx_B τ cr s f0 t0 ∧ F = (f0 : Int) ∧ tb = t0 ∧
    ∀ f t, C f t → zx_T τ cr s f t * zx_B τ cr s f0 t0 ≤ zx_T τ cr s f0 t0 * zx_B τ cr s f t ∧ (zx_T τ cr s f t * zx_B τ cr s f0 t0 = zx_T τ cr s f0 t0 * zx_B τ cr s f t → f0 < f ∨ (f0 = f ∧ t0 ≤ t))
theorem zr_bs_iff {τ : zx_τ} {cr : Int} {s : Nat} {C C' : Nat → Int → Prop} {T0 B0 F tb : Int} (h : ∀ f t, C f t ↔ C' f t) (hb : zr_bs τ cr s C T0 B0 F tb) : zr_bs τ cr s C' T0 B0 F tb := by
  have e : C = C' := funext fun f => funext fun t => propext (h f t)
  rw [← e]; exact hb
theorem zr_bs_skip {τ : zx_τ} {cr : Int} {s f : Nat} {t : Int} {C C' : Nat → Int → Prop} {T0 B0 F tb : Int} (hb : zr_bs τ cr s C T0 B0 F tb) (hC : ∀ f' t', C' f' t' ↔ C f' t' ∨ (f' = f ∧ t' = t)) (hlast : ∀ f' t', C f' t' → f' ≤ f)
    (hpos : ∀ f' t', C' f' t' → 0 ≤ zx_T τ cr s f' t' ∧ 0 < zx_B τ cr s f' t')
    (h1 : ¬ 0 < zx_T τ cr s f t * B0 - T0 * zx_B τ cr s f t) (h2 : zx_T τ cr s f t * B0 - T0 * zx_B τ cr s f t = 0 → F = (f : Int) → ¬ t < tb) : zr_bs τ cr s C' T0 B0 F tb := by
  have hp := hpos f t ((hC f t).mpr (Or.inr ⟨rfl, rfl⟩))
  rcases hb with ⟨g1, g2, g3, g4⟩ | ⟨f0, t0, g1, g2, g3, g4, g5, g6, g7⟩
  · refine Or.inl ⟨g1, g2, g3, fun f' t' h => ?_⟩
    rcases (hC f' t').mp h with h | ⟨rfl, rfl⟩
    · exact g4 f' t' h
    · rw [g1, g2, Int.mul_one, Int.zero_mul] at h1
      omega
  · refine Or.inr ⟨f0, t0, (hC f0 t0).mpr (Or.inl g1), g2, g3, g4, g5, g6, fun f' t' h => ?_⟩
    rcases (hC f' t').mp h with h | ⟨rfl, rfl⟩
    · exact g7 f' t' h
    · rw [g3, g4] at h1 h2
      refine ⟨by omega, fun q => ?_⟩
      have hl := hlast f0 t0 g1
      by_cases e : f0 = f'
      · have := h2 (by omega) (by rw [g5, e])
        exact Or.inr ⟨e, by omega⟩
      · exact Or.inl (by omega)
theorem zr_bs_take {τ : zx_τ} {cr : Int} {s f : Nat} {t : Int} {C C' : Nat → Int → Prop} {T0 B0 F tb : Int} (hb : zr_bs τ cr s C T0 B0 F tb) (hC : ∀ f' t', C' f' t' ↔ C f' t' ∨ (f' = f ∧ t' = t))
    (hpos : ∀ f' t', C' f' t' → 0 ≤ zx_T τ cr s f' t' ∧ 0 < zx_B τ cr s f' t')
    (hy : 0 < zx_T τ cr s f t * B0 - T0 * zx_B τ cr s f t ∨ (zx_T τ cr s f t * B0 - T0 * zx_B τ cr s f t = 0 ∧ F = (f : Int) ∧ t < tb)) : zr_bs τ cr s C' (zx_T τ cr s f t) (zx_B τ cr s f t) (f : Int) t := by
  have hp := hpos f t ((hC f t).mpr (Or.inr ⟨rfl, rfl⟩))
  have self : ∀ f' t', (f' = f ∧ t' = t) → zx_T τ cr s f' t' * zx_B τ cr s f t ≤ zx_T τ cr s f t * zx_B τ cr s f' t' ∧ (zx_T τ cr s f' t' * zx_B τ cr s f t = zx_T τ cr s f t * zx_B τ cr s f' t' → f < f' ∨ (f = f' ∧ t ≤ t')) := by
    rintro f' t' ⟨rfl, rfl⟩
    exact ⟨Int.le_refl _, fun _ => Or.inr ⟨rfl, Int.le_refl _⟩⟩
  rcases hb with ⟨g1, g2, g3, g4⟩ | ⟨f0, t0, g1, g2, g3, g4, g5, g6, g7⟩
  · rw [g1, g2, Int.mul_one, Int.zero_mul] at hy
    have hT : 0 < zx_T τ cr s f t := by omega
    refine Or.inr ⟨f, t, (hC f t).mpr (Or.inr ⟨rfl, rfl⟩), hT, rfl, rfl, rfl, rfl, fun f' t' h => ?_⟩
    rcases (hC f' t').mp h with h' | h'
    · have hp' := hpos f' t' h
      rw [g4 f' t' h', Int.zero_mul]
      have := Int.mul_pos hT hp'.2
      exact ⟨Int.le_of_lt this, fun q => by omega⟩
    · exact self f' t' h'
  · have hp0 := hpos f0 t0 ((hC f0 t0).mpr (Or.inl g1))
    rw [g3, g4, g5, g6] at hy
    have h5 := Int.mul_pos g2 hp.2
    have hT : 0 < zx_T τ cr s f t := by
      rcases Int.lt_or_le 0 (zx_T τ cr s f t) with q | q
      · exact q
      · have h6 : zx_T τ cr s f t = 0 := by omega
        rw [h6, Int.zero_mul] at hy
        omega
    refine Or.inr ⟨f, t, (hC f t).mpr (Or.inr ⟨rfl, rfl⟩), hT, rfl, rfl, rfl, rfl, fun f' t' h => ?_⟩
    rcases (hC f' t').mp h with h' | h'
    · have hp' := hpos f' t' h
      have h7 := g7 f' t' h'
      rcases hy with hy | ⟨hy, y1, y2⟩
      · have := zx_tr (e := zx_T τ cr s f t) hp'.2 hp0.2 hp.2 h7.1 (by omega)
        exact ⟨Int.le_of_lt this, fun q => by omega⟩
      · have hq := zx_tq (a := zx_T τ cr s f' t') (b := zx_B τ cr s f' t') hp0.2 hp.2 (show zx_T τ cr s f0 t0 * zx_B τ cr s f t = zx_T τ cr s f t * zx_B τ cr s f0 t0 by omega)
        refine ⟨hq.1.mp h7.1, fun q => ?_⟩
        rcases h7.2 (hq.2.mpr q) with z | ⟨z1, z2⟩
        · exact Or.inl (by omega)
        · exact Or.inr ⟨by omega, by omega⟩
    · exact self f' t' h'
theorem zx_lr64 {l r : Int} (hl : 0 ≤ l) (hr : 0 ≤ r) (h : l + r ≤ 16) : l * r ≤ 64 := by
  have h1 : l * r ≤ l * (16 - l) := Int.mul_le_mul_of_nonneg_left (by omega) hl
  have h2 : 0 ≤ (l - 8) * (l - 8) := by
    rcases Int.le_total 0 (l - 8) with q | q
    · exact Int.mul_nonneg q q
    · exact Int.mul_nonneg_of_nonpos_of_nonpos q q
  have h3 : (l - 8) * (l - 8) = 64 - l * (16 - l) := by
    rw [Int.sub_mul, Int.mul_sub, Int.mul_sub, Int.mul_sub]
    omega
  omega
theorem zx_bot_1024 {cr l r : Int} (hl : 0 ≤ l) (hr : 0 ≤ r) (h : l + r ≤ 16) : 0 ≤ zx_bot cr l r ∧ zx_bot cr l r ≤ 1024 := by
  unfold zx_bot
  split
  · omega
  · have h1 := zx_lr64 hl hr h
    have h0 := Int.mul_nonneg hl hr
    have h2 : (l + r) * (l * r) ≤ 16 * (l * r) := Int.mul_le_mul_of_nonneg_right h h0
    have h3 : 0 ≤ (l + r) * (l * r) := Int.mul_nonneg (by omega) h0
    omega
theorem zr_df16 {a : Nat} (h : a < 65536) (x : Nat) : zb_df a x < 65536 := by
  apply Nat.lt_of_not_le
  intro hc
  obtain ⟨i, hi, hb⟩ := Nat.exists_ge_and_testBit_of_ge_two_pow (n := 16) hc
  rw [zb_df_bit, Nat.testBit_lt_two_pow (Nat.lt_of_lt_of_le (show a < 2 ^ 16 from h) (Nat.pow_le_pow_right (n := 2) (by decide) hi))] at hb
  cases hb
theorem zr_upto_sub {va : Nat → Nat → Int} {p f n : Nat} {t : Int} (r : Nat) (h : (zt_upto va p f t n).testBit r = true) : p.testBit r = true := by
  unfold zt_upto at h
  rw [zs_mk_bit, Bool.and_eq_true, Bool.and_eq_true] at h
  exact h.2.1
/-- what every candidate keeps to, weights and limits apart -/
theorem zr_TB {V : zg_V} {n : Nat} (hT : zr_T V n) (cr : Int) (s f : Nat) (t : Int) : (0 ≤ zx_T (zr_τ V n) cr s f t ∧ zx_T (zr_τ V n) cr s f t ≤ 1048576) ∧ (0 ≤ zx_B (zr_τ V n) cr s f t ∧ zx_B (zr_τ V n) cr s f t ≤ 1024) ∧ (1 ≤ zx_L (zr_τ V n) s f t → 1 ≤ zx_R (zr_τ V n) s f t → 1 ≤ zx_B (zr_τ V n) cr s f t) ∧ (0 ≤ zx_L (zr_τ V n) s f t ∧ zx_L (zr_τ V n) s f t ≤ 16) ∧ (0 ≤ zx_R (zr_τ V n) s f t ∧ zx_R (zr_τ V n) s f t ≤ 16) := by
  have hL : 0 ≤ zx_L (zr_τ V n) s f t ∧ zx_L (zr_τ V n) s f t ≤ 16 := zr_w_16 hT _
  have hR : 0 ≤ zx_R (zr_τ V n) s f t ∧ zx_R (zr_τ V n) s f t ≤ 16 := zr_w_16 hT _
  have hX : ∀ c, c < 4 → (0 ≤ zx_X (zr_τ V n) s f t c ∧ zx_X (zr_τ V n) s f t c ≤ 16) ∧ (0 ≤ zx_Y (zr_τ V n) s f t c ∧ zx_Y (zr_τ V n) s f t c ≤ 16) := fun c _ => ⟨zr_w_16 hT _, zr_w_16 hT _⟩
  have hsum : zx_L (zr_τ V n) s f t + zx_R (zr_τ V n) s f t ≤ 16 := by
    have h1 : zx_L (zr_τ V n) s f t + zx_R (zr_τ V n) s f t = zt_w (V 226) (zx_ps (zr_τ V n) s f) n := zt_w_df (fun r _ hb => zr_upto_sub r hb)
    rw [h1]
    exact (zr_w_16 hT _).2
  exact ⟨zx_top_b hX hL hR, zx_bot_1024 hL.1 hR.1 hsum, fun a b => (zx_bot_b ⟨a, hL.2⟩ ⟨b, hR.2⟩).1, hL, hR⟩
theorem zr_T_fr {V W : zg_V} {n : Nat} (h : ∀ b, b ≠ 223 → b < 227 → W b = V b) (h0 : W 223 0 = V 223 0) (hT : zr_T V n) : zr_T W n := by
  obtain ⟨h1, h2, h3, h4, h5, h6⟩ := hT
  unfold zr_T
  rw [h0, h 224 (by decide) (by decide), h 225 (by decide) (by decide), h 226 (by decide) (by decide)]
  exact ⟨h1, h2, h3, h4, h5, h6⟩
theorem zr_prod {a b : Int} (ha : 0 ≤ a ∧ a ≤ 1048576) (hb : 0 ≤ b ∧ b ≤ 1024) : 0 ≤ a * b ∧ a * b ≤ 1073741824 := by
  refine ⟨Int.mul_nonneg ha.1 hb.1, ?_⟩
  have h1 : a * b ≤ 1048576 * b := Int.mul_le_mul_of_nonneg_right ha.2 hb.1
  omega
def zr_Cm (τ : zx_τ) (lf : Int) (s f m : Nat) : Nat → Int → Prop := fun f' t' => zx_ok τ lf s f' t' ∧ (f' < f ∨ (f' = f ∧ ∃ m', m' < m ∧ m' / 16 < τ.2.2.2 ∧ m' % 16 < τ.2.2.2 ∧ zr_nx τ.1 (zx_ps τ s f) f (m' / 16) (m' % 16) τ.2.2.2 = true ∧ t' = (τ.1 (m' / 16) f + τ.1 (m' % 16) f) / 2))
theorem zr_Cm_0 (τ : zx_τ) (lf : Int) (s f f' : Nat) (t' : Int) : (zx_ok τ lf s f' t' ∧ f' < f) ↔ zr_Cm τ lf s f 0 f' t' := by
  unfold zr_Cm
  constructor
  · rintro ⟨q1, q2⟩; exact ⟨q1, Or.inl q2⟩
  · rintro ⟨q1, q2 | ⟨-, m', q3, -⟩⟩
    · exact ⟨q1, q2⟩
    · omega
theorem zr_Cm_z {τ : zx_τ} (hn : τ.2.2.2 ≤ 16) (lf : Int) (s f f' : Nat) (t' : Int) : zr_Cm τ lf s f 256 f' t' ↔ (zx_ok τ lf s f' t' ∧ f' < f + 1) := by
  unfold zr_Cm
  constructor
  · rintro ⟨q1, q2 | ⟨q2, -⟩⟩
    · exact ⟨q1, by omega⟩
    · exact ⟨q1, by omega⟩
  · rintro ⟨q1, q2⟩
    refine ⟨q1, ?_⟩
    by_cases e : f' = f
    · subst e
      obtain ⟨i, j, i1, j1, h1, h2⟩ := zr_cut_iff.mp q1.1
      refine Or.inr ⟨rfl, 16 * i + j, by omega, ?_⟩
      rw [show (16 * i + j) / 16 = i by omega, show (16 * i + j) % 16 = j by omega]
      exact ⟨i1, j1, h1, h2⟩
    · exact Or.inl (by omega)
theorem zr_Cm_no {τ : zx_τ} {lf : Int} {s f m : Nat} {t : Int} (ht : (τ.1 (m / 16) f + τ.1 (m % 16) f) / 2 = t) (h : ¬ (m / 16 < τ.2.2.2 ∧ m % 16 < τ.2.2.2 ∧ zr_nx τ.1 (zx_ps τ s f) f (m / 16) (m % 16) τ.2.2.2 = true ∧ zx_ok τ lf s f t)) (f' : Nat) (t' : Int) : zr_Cm τ lf s f m f' t' ↔ zr_Cm τ lf s f (m + 1) f' t' := by
  unfold zr_Cm
  constructor
  · rintro ⟨q1, q2 | ⟨q2, m', q3, q4⟩⟩
    · exact ⟨q1, Or.inl q2⟩
    · exact ⟨q1, Or.inr ⟨q2, m', by omega, q4⟩⟩
  · rintro ⟨q1, q2 | ⟨q2, m', q3, q4, q5, q6, q7⟩⟩
    · exact ⟨q1, Or.inl q2⟩
    · refine ⟨q1, Or.inr ⟨q2, m', ?_, q4, q5, q6, q7⟩⟩
      by_cases e : m' = m
      · subst e
        subst q2
        rw [ht] at q7
        subst q7
        exact absurd ⟨q4, q5, q6, q1⟩ h
      · omega
theorem zr_Cm_yes {τ : zx_τ} {lf : Int} {s f m : Nat} {t : Int} (ht : (τ.1 (m / 16) f + τ.1 (m % 16) f) / 2 = t) (h1 : m / 16 < τ.2.2.2) (h2 : m % 16 < τ.2.2.2) (h3 : zr_nx τ.1 (zx_ps τ s f) f (m / 16) (m % 16) τ.2.2.2 = true) (h4 : zx_ok τ lf s f t) (f' : Nat) (t' : Int) : zr_Cm τ lf s f (m + 1) f' t' ↔ zr_Cm τ lf s f m f' t' ∨ (f' = f ∧ t' = t) := by
  unfold zr_Cm
  constructor
  · rintro ⟨q1, q2 | ⟨q2, m', q3, q4⟩⟩
    · exact Or.inl ⟨q1, Or.inl q2⟩
    · by_cases e : m' = m
      · subst e
        exact Or.inr ⟨q2, by rw [q4.2.2.2, ht]⟩
      · exact Or.inl ⟨q1, Or.inr ⟨q2, m', by omega, q4⟩⟩
  · rintro (⟨q1, q2 | ⟨q2, m', q3, q4⟩⟩ | ⟨q2, q3⟩)
    · exact ⟨q1, Or.inl q2⟩
    · exact ⟨q1, Or.inr ⟨q2, m', by omega, q4⟩⟩
    · subst q2 q3
      exact ⟨h4, Or.inr ⟨rfl, m, by omega, h1, h2, h3, ht.symm⟩⟩
section ZT22
variable {Γ : zg_C} {V : zg_V} {sh : Nat}
theorem cr_seek {k s n : Nat} {cr lf : Int} (hk : k < 32) (hs : s < 65536) (hs0 : V 229 k = (s : Int)) (hcr : V 223 5 = cr) (hcrb : 0 ≤ cr ∧ cr ≤ 2) (hlf : V 223 7 = lf) (hlfb : 1 ≤ lf ∧ lf ≤ 8) (h18 : -2147483648 ≤ V 223 18 ∧ V 223 18 < 2147483648) (hT : zr_T V n) : zg_S Γ zm_Ref_seek 5 0 0 [zg_r Γ 223, zg_i k] zk_K 242 (zk_P sh) V (zq_r zk_K 242 (zk_P sh) (fun rr V' => rr = some (zg_i (zg_b (decide (0 ≤ V' 223 17)))) ∧ zv_on (fun b => b = 223) V V' ∧ (∀ j, j < 15 ∨ 18 < j → V' 223 j = V 223 j) ∧ (-2147483648 ≤ V' 223 18 ∧ V' 223 18 < 2147483648) ∧ ∃ T0 B0, zr_bs (zr_τ V n) cr s (fun f t => zx_ok (zr_τ V n) lf s f t ∧ f < 3) T0 B0 (V' 223 17) (V' 223 18))) := by
  have hn16 := hT.2.1
  have hpos : ∀ f t, zx_ok (zr_τ V n) lf s f t → 0 ≤ zx_T (zr_τ V n) cr s f t ∧ 0 < zx_B (zr_τ V n) cr s f t := fun f t h => by
    have h1 := zr_TB hT cr s f t
    have h2 := h1.2.2.1 (by have := h.2.1; omega) (by have := h.2.2; omega)
    omega
  have hbsb : ∀ (C : Nat → Int → Prop) (T0 B0 F tb : Int), (∀ f t, C f t → f < 3) → zr_bs (zr_τ V n) cr s C T0 B0 F tb → (0 ≤ T0 ∧ T0 ≤ 1048576) ∧ (0 ≤ B0 ∧ B0 ≤ 1024) ∧ (-1 ≤ F ∧ F ≤ 2) := by
    intro C T0 B0 F tb hC hb
    rcases hb with ⟨h1, h2, h3, h4⟩ | ⟨f0, t0, g1, g2, g3, g4, g5, g6, g7⟩
    · omega
    · have hb := zr_TB hT cr s f0 t0
      have := hC f0 t0 g1
      omega
  generalize hQ : zq_r zk_K 242 (zk_P sh) (fun rr V' => rr = some (zg_i (zg_b (decide (0 ≤ V' 223 17)))) ∧ zv_on (fun b => b = 223) V V' ∧ (∀ j, j < 15 ∨ 18 < j → V' 223 j = V 223 j) ∧ (-2147483648 ≤ V' 223 18 ∧ V' 223 18 < 2147483648) ∧ ∃ T0 B0, zr_bs (zr_τ V n) cr s (fun f t => zx_ok (zr_τ V n) lf s f t ∧ f < 3) T0 B0 (V' 223 17) (V' 223 18)) = Q
  refine zg_enter 11 (by decide) (Nat.le_of_ble_eq_true rfl) rfl ?_
  refine zg_iconst zd_Ref_seek_0 ?_
  refine zg_is2 zd_Ref_seek_1 (fun w h => by cases h <;> rfl) (by decide) ?_
  refine zg_iconst zd_Ref_seek_2 ?_
  refine zg_is3 zd_Ref_seek_3 (fun w h => by cases h <;> rfl) (by decide) ?_
  refine zg_al0 zd_Ref_seek_4 ?_
  refine zg_iconst zd_Ref_seek_5 ?_
  refine zg_puti zd_Ref_seek_6 zf_658 rfl (by omega) (by first | assumption | rfl) rfl ?_
  refine zg_iconst zd_Ref_seek_9 ?_
  refine zg_is4 zd_Ref_seek_10 (fun w h => by cases h <;> rfl) (by decide) ?_
  have outer : ∀ (j f : Nat) (T0 B0 : Int) (W : zg_V) (o5 o6 o7 o8 o9 o10 o11 o12 : Option Value) (hij : f + j = 3) (hW : zv_on (fun b => b = 223) V W) (hWj : ∀ j, j < 15 ∨ 18 < j → W 223 j = V 223 j) (hW18 : -2147483648 ≤ W 223 18 ∧ W 223 18 < 2147483648) (hbs : zr_bs (zr_τ V n) cr s (fun f' t' => zx_ok (zr_τ V n) lf s f' t' ∧ f' < f) T0 B0 (W 223 17) (W 223 18)), zg_G Γ (fun _ => True) zm_Ref_seek (zg_rm 5 0 0) (zg_Ω Γ (Q) 0 0) 0 0 12 [some (zg_r Γ (223)), some (zg_i (k)), some (zg_i (T0)), some (zg_i (B0)), some (zg_i ((f : Nat))), o5, o6, o7, o8, o9, o10, o11, o12] [] zk_K 242 (zk_P sh) (W) := by
    intro j
    induction j with
    | zero =>
      intro f T0 B0 W o5 o6 o7 o8 o9 o10 o11 o12 hij hW hWj hW18 hbs
      have e : f = 3 := by omega
      subst e
      have hF := (hbsb _ _ _ _ _ (fun f t h => h.2) hbs).2.2
      refine zg_il4 zd_Ref_seek_12 ?_
      refine zg_iconst zd_Ref_seek_14 ?_
      refine zg_icmp_ge (tgt := 241) zd_Ref_seek_15 (by decide) (by omega) (by omega) (fun b15 => ?_) (fun b15 => ?_)
      · refine zg_al0 zd_Ref_seek_241 ?_
        refine zg_geti zd_Ref_seek_242 zf_658 (by omega) (by first | assumption | rfl) rfl ?_
        refine zg_if_lt (tgt := 252) zd_Ref_seek_245 (by decide) (by omega) (fun b245 => ?_) (fun b245 => ?_)
        · refine zg_iconst zd_Ref_seek_252 ?_
          refine zg_zreturn zd_Ref_seek_253 rfl (by omega) ?_
          subst hQ
          first
            | exact ⟨rfl, rfl, rfl, by rw [decide_eq_true (by omega)]; rfl, hW, hWj, hW18, T0, B0, hbs⟩
            | exact ⟨rfl, rfl, rfl, by rw [decide_eq_false (by omega)]; rfl, hW, hWj, hW18, T0, B0, hbs⟩
        · refine zg_iconst zd_Ref_seek_248 ?_
          refine zg_goto (tgt := 253) zd_Ref_seek_249 (by decide) ?_
          refine zg_zreturn zd_Ref_seek_253 rfl (by omega) ?_
          subst hQ
          first
            | exact ⟨rfl, rfl, rfl, by rw [decide_eq_true (by omega)]; rfl, hW, hWj, hW18, T0, B0, hbs⟩
            | exact ⟨rfl, rfl, rfl, by rw [decide_eq_false (by omega)]; rfl, hW, hWj, hW18, T0, B0, hbs⟩
      · omega
    | succ j ih =>
      intro f T0 B0 W o5 o6 o7 o8 o9 o10 o11 o12 hij hW hWj hW18 hbs
      have hTW : zr_T W n := zr_T_fr (fun b hb _ => hW b hb) (hWj 0 (by omega)) hT
      have hWs : W 229 k = (s : Int) := by rw [hW 229 (by decide)]; exact hs0
      have hpw : zt_pres (zr_va W) s f n = zx_ps (zr_τ V n) s f := congrArg (fun v => zt_pres v s f n) (show zr_va W = zr_va V by unfold zr_va; rw [hW 224 (by decide)])
      generalize hp : zx_ps (zr_τ V n) s f = p at hpw
      have hp16 : p < 65536 := by rw [← hp]; exact zt_mk16 hn16
      have inner : ∀ (j' m : Nat) (T0 B0 : Int) (U : zg_V) (o7 o8 o9 o10 o11 o12 : Option Value) (hij : m + j' = 256) (hU : zv_on (fun b => b = 223) V U) (hUj : ∀ j, j < 15 ∨ 18 < j → U 223 j = V 223 j) (hU18 : -2147483648 ≤ U 223 18 ∧ U 223 18 < 2147483648) (hbs : zr_bs (zr_τ V n) cr s (zr_Cm (zr_τ V n) lf s f m) T0 B0 (U 223 17) (U 223 18)), zg_G Γ (fun _ => True) zm_Ref_seek (zg_rm 5 0 0) (zg_Ω Γ (Q) 0 0) 0 0 35 [some (zg_r Γ (223)), some (zg_i (k)), some (zg_i (T0)), some (zg_i (B0)), some (zg_i ((f : Nat))), some (zg_i (p)), some (zg_i ((m : Nat))), o7, o8, o9, o10, o11, o12] [] zk_K 242 (zk_P sh) (U) := by
        intro j'
        induction j' with
        | zero =>
          intro m T0 B0 U o7 o8 o9 o10 o11 o12 hij hU hUj hU18 hbs
          have e : m = 256 := by omega
          subst e
          have ih := ih (f + 1) T0 B0 U (some (zg_i p)) (some (zg_i (256 : Nat))) o7 o8 o9 o10 o11 o12 (by omega) hU hUj hU18 (zr_bs_iff (zr_Cm_z hn16 lf s f) hbs)
          refine zg_il6 zd_Ref_seek_35 ?_
          refine zg_sipush zd_Ref_seek_37 (by decide) ?_
          refine zg_icmp_ge (tgt := 235) zd_Ref_seek_40 (by decide) (by omega) (by omega) (fun b40 => ?_) (fun b40 => ?_)
          · refine zg_inc4 zd_Ref_seek_235 (fun w h => by cases h <;> rfl) (by decide) ?_
            refine zg_goto (tgt := 12) zd_Ref_seek_238 (by decide) ?_
            exact ih
          · omega
        | succ j' ihi =>
          intro m T0 B0 U o7 o8 o9 o10 o11 o12 hij hU hUj hU18 hbs
          have hTU : zr_T U n := zr_T_fr (fun b hb _ => hU b hb) (hUj 0 (by omega)) hT
          have hUn : U 223 0 = (n : Int) := hTU.1
          have hUlf : U 223 7 = lf := by rw [hUj 7 (by omega)]; exact hlf
          have hUcr : U 223 5 = cr := by rw [hUj 5 (by omega)]; exact hcr
          have hUva : zr_va U = zr_va V := by unfold zr_va; rw [hU 224 (by decide)]
          have hU5 : U 225 = V 225 := hU 225 (by decide)
          have hU6 : U 226 = V 226 := hU 226 (by decide)
          have e46 : Int32.ofInt ((m : Nat) : Int) >>> (Int32.ofInt 4 &&& 31) = Int32.ofInt ((m / 16 : Nat) : Int) := by
            have := zb_shr (s := m) (r := 4) (by omega) (by decide)
            rw [Nat.shiftRight_eq_div_pow] at this
            exact this
          have e53 : Int32.ofInt ((m : Nat) : Int) &&& Int32.ofInt 15 = Int32.ofInt ((m % 16 : Nat) : Int) := by
            have := zb_and m 15
            rw [show m &&& 15 = m % 16 from Nat.and_two_pow_sub_one_eq_mod m 4] at this
            exact this
          have hi16 : m / 16 < 16 := by omega
          have hj16 : m % 16 < 16 := by omega
          have hvi := hT.2.2.1 (m / 16) f hi16 (by omega)
          have hvj := hT.2.2.1 (m % 16) f hj16 (by omega)
          generalize ht : (zr_va V (m / 16) f + zr_va V (m % 16) f) / 2 = t
          have htb : -2147483648 ≤ t ∧ t < 2147483648 := by
            have : (V 224 (3 * (m / 16) + f) + V 224 (3 * (m % 16) + f)) / 2 = t := ht
            omega
          have hno := zr_Cm_no (τ := zr_τ V n) (lf := lf) (s := s) (f := f) (m := m) (t := t) ht
          have hyes := zr_Cm_yes (τ := zr_τ V n) (lf := lf) (s := s) (f := f) (m := m) (t := t) ht
          rw [hp] at hno hyes
          have hskip : ¬ (m / 16 < n ∧ m % 16 < n ∧ zr_nx (zr_va V) p f (m / 16) (m % 16) n = true ∧ zx_ok (zr_τ V n) lf s f t) → ∀ (o7 o8 o9 o10 o11 o12 : Option Value), zg_G Γ (fun _ => True) zm_Ref_seek (zg_rm 5 0 0) (zg_Ω Γ (Q) 0 0) 0 0 35 [some (zg_r Γ (223)), some (zg_i (k)), some (zg_i (T0)), some (zg_i (B0)), some (zg_i ((f : Nat))), some (zg_i (p)), some (zg_i (((m : Nat) : Int) + 1)), o7, o8, o9, o10, o11, o12] [] zk_K 242 (zk_P sh) (U) := fun h o7 o8 o9 o10 o11 o12 => ihi (m + 1) T0 B0 U o7 o8 o9 o10 o11 o12 (by omega) hU hUj hU18 (zr_bs_iff (hno h) hbs)
          generalize hsl : zx_sl (zr_τ V n) p f t = sl
          have hsl16 : sl < 65536 := by rw [← hsl]; exact zt_mk16 hn16
          have hsr16 : zb_df p sl < 65536 := zr_df16 hp16 _
          have hL : zt_w (V 226) sl n = zx_L (zr_τ V n) s f t := by rw [← hsl, ← hp]; rfl
          have hR : zt_w (V 226) (zb_df p sl) n = zx_R (zr_τ V n) s f t := by rw [← hsl, ← hp]; rfl
          have hT1 : zx_top cr (zt_ms (V 225) (V 226) sl n) (zt_ms (V 225) (V 226) (zb_df p sl) n) (zt_w (V 226) sl n) (zt_w (V 226) (zb_df p sl) n) = zx_T (zr_τ V n) cr s f t := by rw [← hsl, ← hp]; rfl
          have hB1 : zx_bot cr (zt_w (V 226) sl n) (zt_w (V 226) (zb_df p sl) n) = zx_B (zr_τ V n) cr s f t := by rw [← hsl, ← hp]; rfl
          have hTB := zr_TB hT cr s f t
          have hun : ∀ c, c < 4 → zt_ms (U 225) (U 226) (sl ||| zb_df p sl) n c = zt_ms (U 225) (U 226) sl n c + zt_ms (U 225) (U 226) (zb_df p sl) n c := fun c _ => zt_ms_or (fun r _ hb => by rw [zb_df_bit, hb]; simp) c
          have hbb := hbsb _ _ _ _ _ (fun f' t' h => by have := h.2; omega) hbs
          have rest : m / 16 < n → m % 16 < n → zr_nx (zr_va V) p f (m / 16) (m % 16) n = true → zx_ok (zr_τ V n) lf s f t → ∀ (U3 : zg_V), U3 = zr_g U (zx_T (zr_τ V n) cr s f t) (zx_B (zr_τ V n) cr s f t) → zg_G Γ (fun _ => True) zm_Ref_seek (zg_rm 5 0 0) (zg_Ω Γ (Q) 0 0) 0 0 164 [some (zg_r Γ (223)), some (zg_i (k)), some (zg_i (T0)), some (zg_i (B0)), some (zg_i ((f : Nat))), some (zg_i (p)), some (zg_i ((m : Nat))), some (zg_i ((m / 16 : Nat))), some (zg_i ((m % 16 : Nat))), some (zg_i (t)), some (zg_i (sl)), some (zg_i ((zb_df p sl : Nat))), o12] [] zk_K 242 (zk_P sh) (U3) := by
            intro h1 h2 h3 hok U3 hU3
            generalize hTd : zx_T (zr_τ V n) cr s f t = T at *
            generalize hBd : zx_B (zr_τ V n) cr s f t = B at *
            have u15 : U3 223 15 = T := by rw [hU3]; unfold zr_g; rw [zg_u_off _ _ _ _ (by decide), zg_u_in]
            have u16 : U3 223 16 = B := by rw [hU3]; unfold zr_g; rw [zg_u_in]
            have uo : ∀ j, j ≠ 15 → j ≠ 16 → U3 223 j = U 223 j := fun j a b => by rw [hU3]; unfold zr_g; rw [zg_u_off _ _ _ _ b, zg_u_off _ _ _ _ a]
            have ux : ∀ b, b ≠ 223 → U3 b = U b := fun b h => by rw [hU3]; unfold zr_g; rw [zg_u_out _ _ _ _ h, zg_u_out _ _ _ _ h]
            have u17 := uo 17 (by decide) (by decide)
            have u18 := uo 18 (by decide) (by decide)
            have hU3V : zv_on (fun b => b = 223) V U3 := fun b hb => by rw [ux b hb]; exact hU b hb
            have hU3j : ∀ j, j < 15 ∨ 18 < j → U3 223 j = V 223 j := fun j hj => by rw [uo j (by omega) (by omega)]; exact hUj j hj
            have hU318 : -2147483648 ≤ U3 223 18 ∧ U3 223 18 < 2147483648 := by rw [u18]; exact hU18
            have p1 := zr_prod hTB.1 hbb.2.1
            have p2 := zr_prod hbb.1 hTB.2.1
            have hbs3 : zr_bs (zr_τ V n) cr s (zr_Cm (zr_τ V n) lf s f m) T0 B0 (U3 223 17) (U3 223 18) := by rw [u17, u18]; exact hbs
            have hpos' : ∀ f' t', zr_Cm (zr_τ V n) lf s f (m + 1) f' t' → 0 ≤ zx_T (zr_τ V n) cr s f' t' ∧ 0 < zx_B (zr_τ V n) cr s f' t' := fun f' t' h => hpos f' t' h.1
            have skip : ¬ 0 < T * B0 - T0 * B → (T * B0 - T0 * B = 0 → U3 223 17 = (f : Int) → ¬ t < U3 223 18) → zg_G Γ (fun _ => True) zm_Ref_seek (zg_rm 5 0 0) (zg_Ω Γ (Q) 0 0) 0 0 35 [some (zg_r Γ (223)), some (zg_i (k)), some (zg_i (T0)), some (zg_i (B0)), some (zg_i ((f : Nat))), some (zg_i (p)), some (zg_i (((m : Nat) : Int) + 1)), some (zg_i ((m / 16 : Nat))), some (zg_i ((m % 16 : Nat))), some (zg_i (t)), some (zg_i (sl)), some (zg_i ((zb_df p sl : Nat))), some (zg_i (T * B0 - T0 * B))] [] zk_K 242 (zk_P sh) (U3) := fun a b => ihi (m + 1) T0 B0 U3 _ _ _ _ _ _ (by omega) hU3V hU3j hU318 (zr_bs_skip hbs3 (hyes h1 h2 h3 hok) (fun f' t' h => by have := h.2; omega) hpos' (by rw [hTd, hBd]; exact a) (by rw [hTd, hBd]; exact b))
            have take : (0 < T * B0 - T0 * B ∨ (T * B0 - T0 * B = 0 ∧ U3 223 17 = (f : Int) ∧ t < U3 223 18)) → zg_G Γ (fun _ => True) zm_Ref_seek (zg_rm 5 0 0) (zg_Ω Γ (Q) 0 0) 0 0 35 [some (zg_r Γ (223)), some (zg_i (k)), some (zg_i (T)), some (zg_i (B)), some (zg_i ((f : Nat))), some (zg_i (p)), some (zg_i (((m : Nat) : Int) + 1)), some (zg_i ((m / 16 : Nat))), some (zg_i ((m % 16 : Nat))), some (zg_i (t)), some (zg_i (sl)), some (zg_i ((zb_df p sl : Nat))), some (zg_i (T * B0 - T0 * B))] [] zk_K 242 (zk_P sh) (zg_u (zg_u U3 223 17 f) 223 18 t) := fun a => by
              refine ihi (m + 1) T B _ _ _ _ _ _ _ (by omega) ?_ ?_ ?_ ?_
              · intro b hb
                rw [zg_u_out _ _ _ _ hb, zg_u_out _ _ _ _ hb]
                exact hU3V b hb
              · intro j hj
                rw [zg_u_off _ _ _ _ (by omega), zg_u_off _ _ _ _ (by omega)]
                exact hU3j j hj
              · rw [zg_u_in]; exact htb
              · rw [zg_u_in, zg_u_off _ _ _ _ (by decide), zg_u_in]
                have := zr_bs_take hbs3 (hyes h1 h2 h3 hok) hpos' (by rw [hTd, hBd]; exact a)
                rw [hTd, hBd] at this
                exact this
            have hF : -1 ≤ U3 223 17 ∧ U3 223 17 ≤ 2 := by rw [u17]; exact hbb.2.2
            refine zg_al0 zd_Ref_seek_164 ?_
            refine zg_geti zd_Ref_seek_165 zf_656 (by omega) (by first | assumption | rfl) rfl ?_
            rw [u15]
            refine zg_il3 zd_Ref_seek_168 ?_
            refine zg_imul zd_Ref_seek_169 ?_
            refine zg_il2 zd_Ref_seek_170 ?_
            refine zg_al0 zd_Ref_seek_171 ?_
            refine zg_geti zd_Ref_seek_172 zf_657 (by omega) (by first | assumption | rfl) rfl ?_
            rw [u16]
            refine zg_imul zd_Ref_seek_175 ?_
            refine zg_isub zd_Ref_seek_176 ?_
            refine zg_is12 zd_Ref_seek_177 (fun w h => by cases h <;> rfl) (by decide) ?_
            refine zg_il12 zd_Ref_seek_179 ?_
            refine zg_if_gt (tgt := 207) zd_Ref_seek_181 (by decide) (by omega) (fun b181 => ?_) (fun b181 => ?_)
            · refine zg_al0 zd_Ref_seek_207 ?_
              refine zg_geti zd_Ref_seek_208 zf_656 (by omega) (by first | assumption | rfl) rfl ?_
              rw [u15]
              refine zg_is2 zd_Ref_seek_211 (fun w h => by cases h <;> rfl) (by decide) ?_
              refine zg_al0 zd_Ref_seek_212 ?_
              refine zg_geti zd_Ref_seek_213 zf_657 (by omega) (by first | assumption | rfl) rfl ?_
              rw [u16]
              refine zg_is3 zd_Ref_seek_216 (fun w h => by cases h <;> rfl) (by decide) ?_
              refine zg_al0 zd_Ref_seek_217 ?_
              refine zg_il4 zd_Ref_seek_218 ?_
              refine zg_puti zd_Ref_seek_220 zf_658 rfl (by omega) (by first | assumption | rfl) rfl ?_
              refine zg_al0 zd_Ref_seek_223 ?_
              refine zg_il9 zd_Ref_seek_224 ?_
              refine zg_puti zd_Ref_seek_226 zf_659 rfl (by omega) (by first | assumption | rfl) rfl ?_
              refine zg_inc6 zd_Ref_seek_229 (fun w h => by cases h <;> rfl) (by decide) ?_
              refine zg_goto (tgt := 35) zd_Ref_seek_232 (by decide) ?_
              first
              | exact take (Or.inl b181)
              | exact take (Or.inr ⟨b186, b195, b204⟩)
              | exact take (Or.inr ⟨by omega, by omega, by omega⟩)
              | exact skip b181 (by omega)
            · refine zg_il12 zd_Ref_seek_184 ?_
              refine zg_if_ne (tgt := 229) zd_Ref_seek_186 (by decide) (by omega) (fun b186 => ?_) (fun b186 => ?_)
              · refine zg_inc6 zd_Ref_seek_229 (fun w h => by cases h <;> rfl) (by decide) ?_
                refine zg_goto (tgt := 35) zd_Ref_seek_232 (by decide) ?_
                first
                | exact take (Or.inl b181)
                | exact take (Or.inr ⟨b186, b195, b204⟩)
                | exact take (Or.inr ⟨by omega, by omega, by omega⟩)
                | exact skip b181 (by omega)
              · refine zg_al0 zd_Ref_seek_189 ?_
                refine zg_geti zd_Ref_seek_190 zf_658 (by omega) (by first | assumption | rfl) rfl ?_
                refine zg_il4 zd_Ref_seek_193 ?_
                refine zg_icmp_ne (tgt := 229) zd_Ref_seek_195 (by decide) (by omega) (by omega) (fun b195 => ?_) (fun b195 => ?_)
                · refine zg_inc6 zd_Ref_seek_229 (fun w h => by cases h <;> rfl) (by decide) ?_
                  refine zg_goto (tgt := 35) zd_Ref_seek_232 (by decide) ?_
                  first
                  | exact take (Or.inl b181)
                  | exact take (Or.inr ⟨b186, b195, b204⟩)
                  | exact take (Or.inr ⟨by omega, by omega, by omega⟩)
                  | exact skip b181 (by omega)
                · refine zg_il9 zd_Ref_seek_198 ?_
                  refine zg_al0 zd_Ref_seek_200 ?_
                  refine zg_geti zd_Ref_seek_201 zf_659 (by omega) (by first | assumption | rfl) rfl ?_
                  refine zg_icmp_ge (tgt := 229) zd_Ref_seek_204 (by decide) (by omega) (by omega) (fun b204 => ?_) (fun b204 => ?_)
                  · refine zg_inc6 zd_Ref_seek_229 (fun w h => by cases h <;> rfl) (by decide) ?_
                    refine zg_goto (tgt := 35) zd_Ref_seek_232 (by decide) ?_
                    first
                    | exact take (Or.inl b181)
                    | exact take (Or.inr ⟨b186, b195, b204⟩)
                    | exact take (Or.inr ⟨by omega, by omega, by omega⟩)
                    | exact skip b181 (by omega)
                  · refine zg_al0 zd_Ref_seek_207 ?_
                    refine zg_geti zd_Ref_seek_208 zf_656 (by omega) (by first | assumption | rfl) rfl ?_
                    rw [u15]
                    refine zg_is2 zd_Ref_seek_211 (fun w h => by cases h <;> rfl) (by decide) ?_
                    refine zg_al0 zd_Ref_seek_212 ?_
                    refine zg_geti zd_Ref_seek_213 zf_657 (by omega) (by first | assumption | rfl) rfl ?_
                    rw [u16]
                    refine zg_is3 zd_Ref_seek_216 (fun w h => by cases h <;> rfl) (by decide) ?_
                    refine zg_al0 zd_Ref_seek_217 ?_
                    refine zg_il4 zd_Ref_seek_218 ?_
                    refine zg_puti zd_Ref_seek_220 zf_658 rfl (by omega) (by first | assumption | rfl) rfl ?_
                    refine zg_al0 zd_Ref_seek_223 ?_
                    refine zg_il9 zd_Ref_seek_224 ?_
                    refine zg_puti zd_Ref_seek_226 zf_659 rfl (by omega) (by first | assumption | rfl) rfl ?_
                    refine zg_inc6 zd_Ref_seek_229 (fun w h => by cases h <;> rfl) (by decide) ?_
                    refine zg_goto (tgt := 35) zd_Ref_seek_232 (by decide) ?_
                    first
                    | exact take (Or.inl b181)
                    | exact take (Or.inr ⟨b186, b195, b204⟩)
                    | exact take (Or.inr ⟨by omega, by omega, by omega⟩)
                    | exact skip b181 (by omega)
          refine zg_il6 zd_Ref_seek_35 ?_
          refine zg_sipush zd_Ref_seek_37 (by decide) ?_
          refine zg_icmp_ge (tgt := 235) zd_Ref_seek_40 (by decide) (by omega) (by omega) (fun b40 => ?_) (fun b40 => ?_)
          · omega
          · refine zg_il6 zd_Ref_seek_43 ?_
            refine zg_iconst zd_Ref_seek_45 ?_
            refine zg_ishr ((m / 16 : Nat) : Int) zd_Ref_seek_46 e46 ?_
            refine zg_is7 zd_Ref_seek_47 (fun w h => by cases h <;> rfl) (by decide) ?_
            refine zg_il6 zd_Ref_seek_49 ?_
            refine zg_bipush zd_Ref_seek_51 (by decide) ?_
            refine zg_iand ((m % 16 : Nat) : Int) zd_Ref_seek_53 e53 ?_
            refine zg_is8 zd_Ref_seek_54 (fun w h => by cases h <;> rfl) (by decide) ?_
            refine zg_il7 zd_Ref_seek_56 ?_
            refine zg_al0 zd_Ref_seek_58 ?_
            refine zg_geti zd_Ref_seek_59 zf_641 (by omega) (by first | assumption | rfl) rfl ?_
            rw [hUn]
            refine zg_icmp_ge (tgt := 229) zd_Ref_seek_62 (by decide) (by omega) (by omega) (fun b62 => ?_) (fun b62 => ?_)
            · refine zg_inc6 zd_Ref_seek_229 (fun w h => by cases h <;> rfl) (by decide) ?_
              refine zg_goto (tgt := 35) zd_Ref_seek_232 (by decide) ?_
              first
              | exact hskip (fun h => by omega) _ _ _ _ _ _
              | exact hskip (fun h => absurd h.2.2.1 (by rw [b86]; exact Bool.false_ne_true)) _ _ _ _ _ _
              | exact hskip (fun h => by have h1 := h.2.2.2.2.1; have h2 := h.2.2.2.2.2; omega) _ _ _ _ _ _
            · refine zg_il8 zd_Ref_seek_65 ?_
              refine zg_al0 zd_Ref_seek_67 ?_
              refine zg_geti zd_Ref_seek_68 zf_641 (by omega) (by first | assumption | rfl) rfl ?_
              rw [hUn]
              refine zg_icmp_ge (tgt := 229) zd_Ref_seek_71 (by decide) (by omega) (by omega) (fun b71 => ?_) (fun b71 => ?_)
              · refine zg_inc6 zd_Ref_seek_229 (fun w h => by cases h <;> rfl) (by decide) ?_
                refine zg_goto (tgt := 35) zd_Ref_seek_232 (by decide) ?_
                first
                | exact hskip (fun h => by omega) _ _ _ _ _ _
                | exact hskip (fun h => absurd h.2.2.1 (by rw [b86]; exact Bool.false_ne_true)) _ _ _ _ _ _
                | exact hskip (fun h => by have h1 := h.2.2.2.2.1; have h2 := h.2.2.2.2.2; omega) _ _ _ _ _ _
              · refine zg_al0 zd_Ref_seek_74 ?_
                refine zg_il5 zd_Ref_seek_75 ?_
                refine zg_il4 zd_Ref_seek_77 ?_
                refine zg_il7 zd_Ref_seek_79 ?_
                refine zg_il8 zd_Ref_seek_81 ?_
                refine zg_cVp4 zd_Ref_seek_83 zM_Ref_next zw_796 zi_Ref_next zs_Ref_next (cr_next hp16 (by omega) hi16 hj16 hTU) (by decide) (by decide) (by omega) (by first | assumption | rfl) (by decide) rfl (Nat.le_of_ble_eq_true rfl) ?_
                rw [hUva]
                refine zg_if_neB (tgt := 92) zd_Ref_seek_86 (by decide) (fun b86 => ?_) (fun b86 => ?_)
                · refine zg_al0 zd_Ref_seek_92 ?_
                  refine zg_il4 zd_Ref_seek_93 ?_
                  refine zg_il7 zd_Ref_seek_95 ?_
                  refine zg_il8 zd_Ref_seek_97 ?_
                  refine zg_cVp3 zd_Ref_seek_99 zM_Ref_between zw_800 zi_Ref_between zs_Ref_between (cr_between (by omega) hi16 hj16 hTU) (by decide) (by decide) (by omega) (by first | assumption | rfl) (by decide) rfl (Nat.le_of_ble_eq_true rfl) ?_
                  rw [hUva, ht]
                  refine zg_is9 zd_Ref_seek_102 (fun w h => by cases h <;> rfl) (by decide) ?_
                  refine zg_al0 zd_Ref_seek_104 ?_
                  refine zg_il5 zd_Ref_seek_105 ?_
                  refine zg_il4 zd_Ref_seek_107 ?_
                  refine zg_il9 zd_Ref_seek_109 ?_
                  refine zg_cVp3 zd_Ref_seek_111 zM_Ref_upTo zw_804 zi_Ref_upTo zs_Ref_upTo (cr_upTo hp16 (by omega) htb hTU) (by decide) (by decide) (by omega) (by first | assumption | rfl) (by decide) rfl (Nat.le_of_ble_eq_true rfl) ?_
                  rw [show zt_upto (zr_va U) p f t n = sl by rw [hUva]; exact hsl]
                  refine zg_is10 zd_Ref_seek_114 (fun w h => by cases h <;> rfl) (by decide) ?_
                  refine zg_il5 zd_Ref_seek_116 ?_
                  refine zg_il10 zd_Ref_seek_118 ?_
                  refine zg_iconst zd_Ref_seek_120 ?_
                  refine zg_ixorR zd_Ref_seek_121 ?_
                  refine zg_iand ((zb_df p sl : Nat) : Int) zd_Ref_seek_122 (zb_andnot p sl) ?_
                  refine zg_is11 zd_Ref_seek_123 (fun w h => by cases h <;> rfl) (by decide) ?_
                  refine zg_al0 zd_Ref_seek_125 ?_
                  refine zg_il10 zd_Ref_seek_126 ?_
                  refine zg_iconst zd_Ref_seek_128 ?_
                  refine zg_cVp2 zd_Ref_seek_129 zM_Ref_weigh zw_808 zi_Ref_weigh zs_Ref_weigh (cr_weighA hsl16 hTU) (by decide) (by decide) (by omega) (by first | assumption | rfl) (by decide) rfl (Nat.le_of_ble_eq_true rfl) ?_
                  rw [hU6, hL]
                  refine zg_al0 zd_Ref_seek_132 ?_
                  refine zg_geti zd_Ref_seek_133 zf_648 (by omega) (by first | assumption | rfl) rfl ?_
                  rw [hUlf]
                  refine zg_icmp_lt (tgt := 229) zd_Ref_seek_136 (by decide) (by omega) (by omega) (fun b136 => ?_) (fun b136 => ?_)
                  · refine zg_inc6 zd_Ref_seek_229 (fun w h => by cases h <;> rfl) (by decide) ?_
                    refine zg_goto (tgt := 35) zd_Ref_seek_232 (by decide) ?_
                    first
                    | exact hskip (fun h => by omega) _ _ _ _ _ _
                    | exact hskip (fun h => absurd h.2.2.1 (by rw [b86]; exact Bool.false_ne_true)) _ _ _ _ _ _
                    | exact hskip (fun h => by have h1 := h.2.2.2.2.1; have h2 := h.2.2.2.2.2; omega) _ _ _ _ _ _
                  · refine zg_al0 zd_Ref_seek_139 ?_
                    refine zg_il11 zd_Ref_seek_140 ?_
                    refine zg_iconst zd_Ref_seek_142 ?_
                    refine zg_cVp2 zd_Ref_seek_143 zM_Ref_weigh zw_808 zi_Ref_weigh zs_Ref_weigh (cr_weighA hsr16 hTU) (by decide) (by decide) (by omega) (by first | assumption | rfl) (by decide) rfl (Nat.le_of_ble_eq_true rfl) ?_
                    rw [hU6, hR]
                    refine zg_al0 zd_Ref_seek_146 ?_
                    refine zg_geti zd_Ref_seek_147 zf_648 (by omega) (by first | assumption | rfl) rfl ?_
                    rw [hUlf]
                    refine zg_icmp_ge (tgt := 156) zd_Ref_seek_150 (by decide) (by omega) (by omega) (fun b150 => ?_) (fun b150 => ?_)
                    · refine zg_al0 zd_Ref_seek_156 ?_
                      refine zg_il10 zd_Ref_seek_157 ?_
                      refine zg_il11 zd_Ref_seek_159 ?_
                      refine zg_cVq2 zd_Ref_seek_161 zM_Ref_gainOf zw_812 zi_Ref_gainOf zs_Ref_gainOf (cr_gain hsl16 hsr16 hTU hUcr hcrb hun) (by decide) (by decide) (by omega) (by first | assumption | rfl) (by decide) rfl (Nat.le_of_ble_eq_true rfl) ?_
                      exact rest (by omega) (by omega) b86 ⟨by rw [hp]; exact zr_cut_iff.mpr ⟨m / 16, m % 16, (show m / 16 < n by omega), (show m % 16 < n by omega), b86, ht.symm⟩, by omega, by omega⟩ _ (by rw [hU5, hU6, hT1, hB1])
                    · refine zg_goto (tgt := 229) zd_Ref_seek_153 (by decide) ?_
                      refine zg_inc6 zd_Ref_seek_229 (fun w h => by cases h <;> rfl) (by decide) ?_
                      refine zg_goto (tgt := 35) zd_Ref_seek_232 (by decide) ?_
                      first
                      | exact hskip (fun h => by omega) _ _ _ _ _ _
                      | exact hskip (fun h => absurd h.2.2.1 (by rw [b86]; exact Bool.false_ne_true)) _ _ _ _ _ _
                      | exact hskip (fun h => by have h1 := h.2.2.2.2.1; have h2 := h.2.2.2.2.2; omega) _ _ _ _ _ _
                · refine zg_goto (tgt := 229) zd_Ref_seek_89 (by decide) ?_
                  refine zg_inc6 zd_Ref_seek_229 (fun w h => by cases h <;> rfl) (by decide) ?_
                  refine zg_goto (tgt := 35) zd_Ref_seek_232 (by decide) ?_
                  first
                  | exact hskip (fun h => by omega) _ _ _ _ _ _
                  | exact hskip (fun h => absurd h.2.2.1 (by rw [b86]; exact Bool.false_ne_true)) _ _ _ _ _ _
                  | exact hskip (fun h => by have h1 := h.2.2.2.2.1; have h2 := h.2.2.2.2.2; omega) _ _ _ _ _ _
      refine zg_il4 zd_Ref_seek_12 ?_
      refine zg_iconst zd_Ref_seek_14 ?_
      refine zg_icmp_ge (tgt := 241) zd_Ref_seek_15 (by decide) (by omega) (by omega) (fun b15 => ?_) (fun b15 => ?_)
      · omega
      · refine zg_al0 zd_Ref_seek_18 ?_
        refine zg_al0 zd_Ref_seek_19 ?_
        refine zg_getr zd_Ref_seek_20 zf_650 (by omega) (by first | assumption | rfl) rfl (by first | assumption | rfl) ?_
        refine zg_il1 zd_Ref_seek_23 ?_
        refine zg_iald zd_Ref_seek_24 (by omega) (by first | assumption | rfl) rfl (by omega) (by decide) ?_
        rw [hWs]
        refine zg_il4 zd_Ref_seek_25 ?_
        refine zg_cVp2 zd_Ref_seek_27 zM_Ref_present zw_788 zi_Ref_present zs_Ref_present (cr_present hs (by omega) hTW) (by decide) (by decide) (by omega) (by first | assumption | rfl) (by decide) rfl (Nat.le_of_ble_eq_true rfl) ?_
        rw [hpw]
        refine zg_is5 zd_Ref_seek_30 (fun w h => by cases h <;> rfl) (by decide) ?_
        refine zg_iconst zd_Ref_seek_32 ?_
        refine zg_is6 zd_Ref_seek_33 (fun w h => by cases h <;> rfl) (by decide) ?_
        exact inner 256 0 T0 B0 W _ _ _ _ _ _ (by omega) hW hWj hW18 (zr_bs_iff (zr_Cm_0 _ lf s f) hbs)
  refine outer 3 0 0 1 _ _ _ _ _ _ _ _ _ (by omega) ?_ ?_ ?_ ?_
  · intro b hb; rw [zg_u_out _ _ _ _ hb]
  · intro j hj; rw [zg_u_off _ _ _ _ (by omega)]
  · rw [zg_u_off _ _ _ _ (by decide)]; exact h18
  · exact Or.inl ⟨rfl, rfl, zg_u_in _ _ _ _, fun f t h => by omega⟩
end ZT22

