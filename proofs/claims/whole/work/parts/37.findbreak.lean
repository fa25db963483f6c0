/-! Cutter.findBreak -/
theorem zt_spk (V : zg_V) (k : Nat) : zt_sp V k = true ↔ V 201 k = 2 := ⟨fun h => of_decide_eq_true h, fun h => decide_eq_true h⟩
/-- what findWeakest needs and gives, at the tree cut at p / q -/
theorem zc_rest {V W : zg_V} (hW : zc_W V) {p q : Int} (hp : 0 ≤ p) (hq : 0 < q) (hr : ∀ k, 1 ≤ k → k < 32 → W 217 k = zc_sh (zt_er V) (zt_sp V) (V 201) p q k) (hk0 : zt_kd (W 217)) (h0 : W 217 0 ≠ 2) (hn : ∀ k, k < 32 → W (40 + 5 * k) = V (40 + 5 * k)) :
    (∀ k, k < 32 → W 217 k = 2 → k < 16) ∧ (∀ k, 1 ≤ k → k < 32 → zc_l (W 217) k = zc_l (zc_sh (zt_er V) (zt_sp V) (V 201) p q) k ∧ zc_s (zt_er W) (W 217) k = zc_s (zt_er V) (zc_sh (zt_er V) (zt_sp V) (V 201) p q) k) ∧ (∀ k, 1 ≤ k → k < 32 → W 217 k = 2 → zc_s (zt_er W) (W 217) k < W (40 + 5 * k) 2) := by
  have h16 : ∀ k, k < 32 → W 217 k = 2 → k < 16 := by
    intro k hk h
    by_cases e : k = 0
    · omega
    · rw [hr k (by omega) hk] at h
      have := ((zc_sh2 (zt_spk V) (by omega)).mp h).1
      exact hW.2.2 k hk ((zt_spk V k).mp this.2.1)
  have heq : ∀ k, 1 ≤ k → k < 32 → zc_l (W 217) k = zc_l (zc_sh (zt_er V) (zt_sp V) (V 201) p q) k ∧ zc_s (zt_er W) (W 217) k = zc_s (zt_er V) (zc_sh (zt_er V) (zt_sp V) (V 201) p q) k := by
    intro k hk
    have := zc_ind (M := fun k => k < 32 → zc_l (W 217) k = zc_l (zc_sh (zt_er V) (zt_sp V) (V 201) p q) k ∧ zc_s (zt_er W) (W 217) k = zc_s (zt_er V) (zc_sh (zt_er V) (zt_sp V) (V 201) p q) k) (fun k k1 ih k2 => by
      by_cases h : W 217 k = 2
      · have h' : zc_sh (zt_er V) (zt_sp V) (V 201) p q k = 2 := by rw [← hr k k1 k2]; exact h
        have := h16 k k2 h
        have i := ih k2
        have i1 := i.1 (by omega)
        have i2 := i.2 (by omega)
        rw [zc_l_k k1 k2 h, zc_l_k k1 k2 h', zc_s_k k1 k2 h, zc_s_k k1 k2 h', i1.1, i1.2, i2.1, i2.2]
        exact ⟨rfl, rfl⟩
      · have h' : ¬ zc_sh (zt_er V) (zt_sp V) (V 201) p q k = 2 := by rw [← hr k k1 k2]; exact h
        rw [zc_l_n h, zc_l_n h', zc_s_n h, zc_s_n h']
        refine ⟨rfl, ?_⟩
        show W (40 + 5 * k) 2 = V (40 + 5 * k) 2
        rw [hn k k2]) k hk
    exact this
  refine ⟨h16, heq, fun k k1 k2 h => ?_⟩
  have h' : zc_sh (zt_er V) (zt_sp V) (V 201) p q k = 2 := by rw [← hr k k1 k2]; exact h
  have hs := (zc_sh2 (zt_spk V) k1).mp h'
  have hl := zc_ls (e := zt_er V) (zt_spk V) (p := p) (q := q) k k1 hs.2
  have hpr := zc_k_pr hs.1
  rw [(heq k k1 k2).2, hl.2, hn k k2]
  have hL := zc_L_pos (zt_er V) (zt_sp V) p q k k1
  have h3 : 0 ≤ (zc_L (zt_er V) (zt_sp V) p q k - 1) * p := Int.mul_nonneg (by omega) hp
  have h4 : 0 < (V (40 + 5 * k) 2 - zc_E (zt_er V) (zt_sp V) p q k) * q := by
    have : (zc_L (zt_er V) (zt_sp V) p q k - 1) * p < (V (40 + 5 * k) 2 - zc_E (zt_er V) (zt_sp V) p q k) * q := hpr
    omega
  rcases Int.lt_or_le 0 (V (40 + 5 * k) 2 - zc_E (zt_er V) (zt_sp V) p q k) with z | z
  · omega
  · have := Int.mul_le_mul_of_nonneg_right z (Int.le_of_lt hq)
    rw [Int.zero_mul] at this
    omega
/-- a step of the chain -/
theorem zc_step {V W W' : zg_V} (hW : zc_W V) {p q : Int} (hp : 0 ≤ p) (hq : 0 < q ∧ q ≤ 15) (hr : ∀ k, 1 ≤ k → k < 32 → W 217 k = zc_sh (zt_er V) (zt_sp V) (V 201) p q k) (hk0 : zt_kd (W 217)) (h0 : W 217 0 ≠ 2) (hn : ∀ k, k < 32 → W (40 + 5 * k) = V (40 + 5 * k)) {β : Bool} (hwk : zc_wk (zt_er W) (W 217) 1 β W') :
    (β = false ∧ ∀ x y, ¬ zc_nb (zt_er V) (zt_sp V) p q x y) ∨ (β = true ∧ zc_nb (zt_er V) (zt_sp V) p q (W' 215 0) (W' 215 1)) := by
  obtain ⟨h16, heq, hpos⟩ := zc_rest hW hp hq.1 hr hk0 h0 hn
  rcases hwk with ⟨b, h⟩ | ⟨b, k0, g1, g2, g3, g4, g5, g6⟩
  · refine Or.inl ⟨b, fun x y hnb => ?_⟩
    exact zc_last (zt_spk V) hq (by rw [← hr 1 (by omega) (by omega)]; exact h 1 (by omega) (by omega)) x y hnb.1 hnb.2.1
  · refine Or.inr ⟨b, ?_⟩
    have hlb := (zc_l_b h16).2.2.2.2
    have fact : ∀ k, 1 ≤ k → k < 32 → W 217 k = 2 → ((zc_t (zt_er W) (W 217) k : Nat) : Int) = V (40 + 5 * k) 2 - zc_E (zt_er V) (zt_sp V) p q k ∧ ((zc_b (W 217) k : Nat) : Int) = zc_L (zt_er V) (zt_sp V) p q k - 1 ∧ 1 ≤ zc_t (zt_er W) (W 217) k ∧ zc_t (zt_er W) (W 217) k ≤ 16 ∧ 1 ≤ zc_b (W 217) k ∧ zc_b (W 217) k ≤ 15 := by
      intro k k1 k2 h
      have h' : zc_sh (zt_er V) (zt_sp V) (V 201) p q k = 2 := by rw [← hr k k1 k2]; exact h
      have hs := (zc_sh2 (zt_spk V) k1).mp h'
      have hl := zc_ls (e := zt_er V) (zt_spk V) (p := p) (q := q) k k1 hs.2
      have e1 := heq k k1 k2
      have e2 := hpos k k1 k2 h
      have e3 := hlb k k1 k2
      have e4 := hW.1 k k2
      have sb := zc_s_b (e := zt_er W) h16 (fun j _ j2 => by show 0 ≤ W (40 + 5 * j) 2 ∧ W (40 + 5 * j) 2 ≤ 16; rw [hn j j2]; exact hW.1 j j2) k k1 k2
      have a : zc_L (zt_er V) (zt_sp V) p q (2 * k) ≥ 1 := zc_L_pos _ _ _ _ _ (by omega)
      have b : zc_L (zt_er V) (zt_sp V) p q (2 * k + 1) ≥ 1 := zc_L_pos _ _ _ _ _ (by omega)
      have c := zc_L_k hs.1
      have t1 : zc_t (zt_er W) (W 217) k = (W (40 + 5 * k) 2 - zc_s (zt_er W) (W 217) k).toNat := rfl
      have t2 : zc_b (W 217) k = (zc_l (W 217) k - 1).toNat := rfl
      rw [hn k k2] at e2 t1
      rw [← hl.1, ← hl.2, ← e1.1, ← e1.2]
      rw [← hl.1, ← e1.1] at c
      omega
    have f0 := fact k0 g1 g2 g3
    have hg : 0 < Nat.gcd (zc_t (zt_er W) (W 217) k0) (zc_b (W 217) k0) := Nat.gcd_pos_of_pos_right _ (by omega)
    have e1 : Nat.gcd (zc_t (zt_er W) (W 217) k0) (zc_b (W 217) k0) * (zc_t (zt_er W) (W 217) k0 / Nat.gcd (zc_t (zt_er W) (W 217) k0) (zc_b (W 217) k0)) = zc_t (zt_er W) (W 217) k0 := Nat.mul_div_cancel' (Nat.gcd_dvd_left _ _)
    have e2 : Nat.gcd (zc_t (zt_er W) (W 217) k0) (zc_b (W 217) k0) * (zc_b (W 217) k0 / Nat.gcd (zc_t (zt_er W) (W 217) k0) (zc_b (W 217) k0)) = zc_b (W 217) k0 := Nat.mul_div_cancel' (Nat.gcd_dvd_right _ _)
    have e3 : Nat.gcd (zc_t (zt_er W) (W 217) k0 / Nat.gcd (zc_t (zt_er W) (W 217) k0) (zc_b (W 217) k0)) (zc_b (W 217) k0 / Nat.gcd (zc_t (zt_er W) (W 217) k0) (zc_b (W 217) k0)) = 1 := Nat.gcd_div_gcd_div_gcd hg
    have e4 : zc_t (zt_er W) (W 217) k0 / Nat.gcd (zc_t (zt_er W) (W 217) k0) (zc_b (W 217) k0) ≤ zc_t (zt_er W) (W 217) k0 := Nat.div_le_self _ _
    have e5 : zc_b (W 217) k0 / Nat.gcd (zc_t (zt_er W) (W 217) k0) (zc_b (W 217) k0) ≤ zc_b (W 217) k0 := Nat.div_le_self _ _
    rw [g4, g5]
    generalize zc_t (zt_er W) (W 217) k0 / Nat.gcd (zc_t (zt_er W) (W 217) k0) (zc_b (W 217) k0) = P at *
    generalize zc_b (W 217) k0 / Nat.gcd (zc_t (zt_er W) (W 217) k0) (zc_b (W 217) k0) = Q at *
    generalize Nat.gcd (zc_t (zt_er W) (W 217) k0) (zc_b (W 217) k0) = g at *
    have hP1 : 1 ≤ P := by
      rcases Nat.eq_zero_or_pos P with z | z
      · rw [z, Nat.mul_zero] at e1; omega
      · exact z
    have hQ1 : 1 ≤ Q := by
      rcases Nat.eq_zero_or_pos Q with z | z
      · rw [z, Nat.mul_zero] at e2; omega
      · exact z
    have hgi : (0 : Int) < (g : Int) := by omega
    have c1 : ((zc_t (zt_er W) (W 217) k0 : Nat) : Int) = (g : Int) * P := by rw [← e1, Int.natCast_mul]
    have c2 : ((zc_b (W 217) k0 : Nat) : Int) = (g : Int) * Q := by rw [← e2, Int.natCast_mul]
    refine zc_next (kd := V 201) (zt_spk V) hp hq (by omega) (by omega) (by rw [← e3]; rfl) (fun k k1 k2 h => ?_) g1 (by rw [← hr k0 g1 g2]; exact g3) ?_
    · have h' : W 217 k = 2 := by rw [hr k k1 k2]; exact h
      have f := fact k k1 k2 h'
      have h6 := g6 k k1 k2 h'
      show (zc_L (zt_er V) (zt_sp V) p q k - 1) * (P : Int) ≤ (Q : Int) * (V (40 + 5 * k) 2 - zc_E (zt_er V) (zt_sp V) p q k)
      rw [← f.1, ← f.2.1]
      rw [c1, c2] at h6
      have h7 : (g : Int) * ((zc_b (W 217) k : Int) * P) ≤ (g : Int) * ((Q : Int) * (zc_t (zt_er W) (W 217) k : Int)) := by
        rw [Int.mul_assoc] at h6
        rw [Int.mul_comm (zc_b (W 217) k : Int) (P : Int), Int.mul_left_comm (g : Int) (Q : Int), Int.mul_comm (Q : Int)] 
        rw [show (g : Int) * (zc_t (zt_er W) (W 217) k : Int) * (Q : Int) = (zc_t (zt_er W) (W 217) k : Int) * ((g : Int) * (Q : Int)) by rw [Int.mul_comm (g : Int) (zc_t (zt_er W) (W 217) k : Int), Int.mul_assoc]]
        exact h6
      exact Int.le_of_mul_le_mul_left h7 hgi
    · show (zc_L (zt_er V) (zt_sp V) p q k0 - 1) * (P : Int) = (Q : Int) * (V (40 + 5 * k0) 2 - zc_E (zt_er V) (zt_sp V) p q k0)
      rw [← f0.1, ← f0.2.1, c1, c2]
      rw [Int.mul_right_comm, Int.mul_comm ((g : Int) * P) Q]

