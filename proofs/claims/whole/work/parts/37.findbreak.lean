/-! Cutter.findBreak -/
theorem zt_spk (V : zg_V) (k : Nat) : zt_sp V k = true ↔ V 201 k = 2 := ⟨fun h => of_decide_eq_true h, fun h => decide_eq_true h⟩
/-- what findWeakest needs and gives, at the tree cut at p / q -/
theorem zc_rest {V W : zg_V} (hW : zc_W V) {p q : Int} (hp : 0 ≤ p) (hq : 0 < q) (hr : ∀ k, 1 ≤ k → k < 32 → W 217 k = zc_sh (zt_er V) (zt_sp V) (V 201) p q k) (hk0 : zt_kd (W 217)) (h0 : W 217 0 ≠ 2) (hn : ∀ k, k < 32 → W (40 + 5 * k) = V (40 + 5 * k)) :
    (∀ k, k < 32 → W 217 k = 2 → k < 16) ∧ (∀ k, 1 ≤ k → k < 32 → zc_l (W 217) k = zc_l (zc_sh (zt_er V) (zt_sp V) (V 201) p q) k ∧ zc_s (zt_er W) (W 217) k = zc_s (zt_er V) (zc_sh (zt_er V) (zt_sp V) (V 201) p q) k) ∧ (∀ k, 1 ≤ k → k < 32 → W 217 k = 2 → zc_s (zt_er W) (W 217) k < W (40 + 5 * k) 2) := by
  have h16 : ∀ k, k < 32 → W 217 k = 2 → k < 16 := by
    intro k hk h
    by_cases e : k = 0
    · omega
    · rw [hr k (by omega) hk] at h
      have := ((zc_sh2 (zt_spk V) (by omega)).mp h).1
      exact hW.2.2 k hk ((zt_spk V k).mp this.2.1)
  have heq : ∀ k, 1 ≤ k → k < 32 → zc_l (W 217) k = zc_l (zc_sh (zt_er V) (zt_sp V) (V 201) p q) k ∧ zc_s (zt_er W) (W 217) k = zc_s (zt_er V) (zc_sh (zt_er V) (zt_sp V) (V 201) p q) k := by
    intro k hk
    have := zc_ind (M := fun k => k < 32 → zc_l (W 217) k = zc_l (zc_sh (zt_er V) (zt_sp V) (V 201) p q) k ∧ zc_s (zt_er W) (W 217) k = zc_s (zt_er V) (zc_sh (zt_er V) (zt_sp V) (V 201) p q) k) (fun k k1 ih k2 => by
      by_cases h : W 217 k = 2
      · have h' : zc_sh (zt_er V) (zt_sp V) (V 201) p q k = 2 := by rw [← hr k k1 k2]; exact h
        have := h16 k k2 h
        have i := ih k2
        have i1 := i.1 (by omega)
        have i2 := i.2 (by omega)
        rw [zc_l_k k1 k2 h, zc_l_k k1 k2 h', zc_s_k k1 k2 h, zc_s_k k1 k2 h', i1.1, i1.2, i2.1, i2.2]
        exact ⟨rfl, rfl⟩
      · have h' : ¬ zc_sh (zt_er V) (zt_sp V) (V 201) p q k = 2 := by rw [← hr k k1 k2]; exact h
        rw [zc_l_n h, zc_l_n h', zc_s_n h, zc_s_n h']
        refine ⟨rfl, ?_⟩
        show W (40 + 5 * k) 2 = V (40 + 5 * k) 2
        rw [hn k k2]) k hk
    exact this
  refine ⟨h16, heq, fun k k1 k2 h => ?_⟩
  have h' : zc_sh (zt_er V) (zt_sp V) (V 201) p q k = 2 := by rw [← hr k k1 k2]; exact h
  have hs := (zc_sh2 (zt_spk V) k1).mp h'
  have hl := zc_ls (e := zt_er V) (zt_spk V) (p := p) (q := q) k k1 hs.2
  have hpr := zc_k_pr hs.1
  rw [(heq k k1 k2).2, hl.2, hn k k2]
  have hL := zc_L_pos (zt_er V) (zt_sp V) p q k k1
  have h3 : 0 ≤ (zc_L (zt_er V) (zt_sp V) p q k - 1) * p := Int.mul_nonneg (by omega) hp
  have h4 : 0 < (V (40 + 5 * k) 2 - zc_E (zt_er V) (zt_sp V) p q k) * q := by
    have : (zc_L (zt_er V) (zt_sp V) p q k - 1) * p < (V (40 + 5 * k) 2 - zc_E (zt_er V) (zt_sp V) p q k) * q := hpr
    omega
  rcases Int.lt_or_le 0 (V (40 + 5 * k) 2 - zc_E (zt_er V) (zt_sp V) p q k) with z | z
  · omega
  · have := Int.mul_le_mul_of_nonneg_right z (Int.le_of_lt hq)
    rw [Int.zero_mul] at this
    omega
/-- a step of the chain -/
theorem zc_step {V W W' : zg_V} (hW : zc_W V) {p q : Int} (hp : 0 ≤ p) (hq : 0 < q ∧ q ≤ 15) (hr : ∀ k, 1 ≤ k → k < 32 → W 217 k = zc_sh (zt_er V) (zt_sp V) (V 201) p q k) (hk0 : zt_kd (W 217)) (h0 : W 217 0 ≠ 2) (hn : ∀ k, k < 32 → W (40 + 5 * k) = V (40 + 5 * k)) {β : Bool} (hwk : zc_wk (zt_er W) (W 217) 1 β W') :
    (β = false ∧ ∀ x y, ¬ zc_nb (zt_er V) (zt_sp V) p q x y) ∨ (β = true ∧ zc_nb (zt_er V) (zt_sp V) p q (W' 215 0) (W' 215 1)) := by
  obtain ⟨h16, heq, hpos⟩ := zc_rest hW hp hq.1 hr hk0 h0 hn
  rcases hwk with ⟨b, h⟩ | ⟨b, k0, g1, g2, g3, g4, g5, g6⟩
  · refine Or.inl ⟨b, fun x y hnb => ?_⟩
    exact zc_last (zt_spk V) hq (by rw [← hr 1 (by omega) (by omega)]; exact h 1 (by omega) (by omega)) x y hnb.1 hnb.2.1
  · refine Or.inr ⟨b, ?_⟩
    have hlb := (zc_l_b h16).2.2.2.2
    have fact : ∀ k, 1 ≤ k → k < 32 → W 217 k = 2 → ((zc_t (zt_er W) (W 217) k : Nat) : Int) = V (40 + 5 * k) 2 - zc_E (zt_er V) (zt_sp V) p q k ∧ ((zc_b (W 217) k : Nat) : Int) = zc_L (zt_er V) (zt_sp V) p q k - 1 ∧ 1 ≤ zc_t (zt_er W) (W 217) k ∧ zc_t (zt_er W) (W 217) k ≤ 16 ∧ 1 ≤ zc_b (W 217) k ∧ zc_b (W 217) k ≤ 15 := by
      intro k k1 k2 h
      have h' : zc_sh (zt_er V) (zt_sp V) (V 201) p q k = 2 := by rw [← hr k k1 k2]; exact h
      have hs := (zc_sh2 (zt_spk V) k1).mp h'
      have hl := zc_ls (e := zt_er V) (zt_spk V) (p := p) (q := q) k k1 hs.2
      have e1 := heq k k1 k2
      have e2 := hpos k k1 k2 h
      have e3 := hlb k k1 k2
      have e4 := hW.1 k k2
      have sb := zc_s_b (e := zt_er W) h16 (fun j _ j2 => by show 0 ≤ W (40 + 5 * j) 2 ∧ W (40 + 5 * j) 2 ≤ 16; rw [hn j j2]; exact hW.1 j j2) k k1 k2
      have a : zc_L (zt_er V) (zt_sp V) p q (2 * k) ≥ 1 := zc_L_pos _ _ _ _ _ (by omega)
      have b : zc_L (zt_er V) (zt_sp V) p q (2 * k + 1) ≥ 1 := zc_L_pos _ _ _ _ _ (by omega)
      have c := zc_L_k hs.1
      have t1 : zc_t (zt_er W) (W 217) k = (W (40 + 5 * k) 2 - zc_s (zt_er W) (W 217) k).toNat := rfl
      have t2 : zc_b (W 217) k = (zc_l (W 217) k - 1).toNat := rfl
      rw [hn k k2] at e2 t1
      rw [← hl.1, ← hl.2, ← e1.1, ← e1.2]
      rw [← hl.1, ← e1.1] at c
      omega
    have f0 := fact k0 g1 g2 g3
    have hg : 0 < Nat.gcd (zc_t (zt_er W) (W 217) k0) (zc_b (W 217) k0) := Nat.gcd_pos_of_pos_right _ (by omega)
    have e1 : Nat.gcd (zc_t (zt_er W) (W 217) k0) (zc_b (W 217) k0) * (zc_t (zt_er W) (W 217) k0 / Nat.gcd (zc_t (zt_er W) (W 217) k0) (zc_b (W 217) k0)) = zc_t (zt_er W) (W 217) k0 := Nat.mul_div_cancel' (Nat.gcd_dvd_left _ _)
    have e2 : Nat.gcd (zc_t (zt_er W) (W 217) k0) (zc_b (W 217) k0) * (zc_b (W 217) k0 / Nat.gcd (zc_t (zt_er W) (W 217) k0) (zc_b (W 217) k0)) = zc_b (W 217) k0 := Nat.mul_div_cancel' (Nat.gcd_dvd_right _ _)
    have e3 : Nat.gcd (zc_t (zt_er W) (W 217) k0 / Nat.gcd (zc_t (zt_er W) (W 217) k0) (zc_b (W 217) k0)) (zc_b (W 217) k0 / Nat.gcd (zc_t (zt_er W) (W 217) k0) (zc_b (W 217) k0)) = 1 := Nat.gcd_div_gcd_div_gcd_of_pos_right (by omega)
    have e4 : zc_t (zt_er W) (W 217) k0 / Nat.gcd (zc_t (zt_er W) (W 217) k0) (zc_b (W 217) k0) ≤ zc_t (zt_er W) (W 217) k0 := Nat.div_le_self _ _
    have e5 : zc_b (W 217) k0 / Nat.gcd (zc_t (zt_er W) (W 217) k0) (zc_b (W 217) k0) ≤ zc_b (W 217) k0 := Nat.div_le_self _ _
    rw [g4, g5]
    generalize zc_t (zt_er W) (W 217) k0 / Nat.gcd (zc_t (zt_er W) (W 217) k0) (zc_b (W 217) k0) = P at *
    generalize zc_b (W 217) k0 / Nat.gcd (zc_t (zt_er W) (W 217) k0) (zc_b (W 217) k0) = Q at *
    generalize Nat.gcd (zc_t (zt_er W) (W 217) k0) (zc_b (W 217) k0) = g at *
    have hP1 : 1 ≤ P := by
      rcases Nat.eq_zero_or_pos P with z | z
      · rw [z, Nat.mul_zero] at e1; omega
      · exact z
    have hQ1 : 1 ≤ Q := by
      rcases Nat.eq_zero_or_pos Q with z | z
      · rw [z, Nat.mul_zero] at e2; omega
      · exact z
    have hgi : (0 : Int) < (g : Int) := by omega
    have c1 : ((zc_t (zt_er W) (W 217) k0 : Nat) : Int) = (g : Int) * P := by rw [← e1, Int.natCast_mul]
    have c2 : ((zc_b (W 217) k0 : Nat) : Int) = (g : Int) * Q := by rw [← e2, Int.natCast_mul]
    refine zc_next (kd := V 201) (zt_spk V) hp hq (by omega) (by omega) (by rw [← e3]; rfl) (fun k k1 k2 h => ?_) g1 (by rw [← hr k0 g1 g2]; exact g3) ?_
    · have h' : W 217 k = 2 := by rw [hr k k1 k2]; exact h
      have f := fact k k1 k2 h'
      have h6 := g6 k k1 k2 h'
      show (zc_L (zt_er V) (zt_sp V) p q k - 1) * (P : Int) ≤ (Q : Int) * (V (40 + 5 * k) 2 - zc_E (zt_er V) (zt_sp V) p q k)
      rw [← f.1, ← f.2.1]
      rw [c1, c2] at h6
      have h7 : (g : Int) * ((zc_b (W 217) k : Int) * P) ≤ (g : Int) * ((Q : Int) * (zc_t (zt_er W) (W 217) k : Int)) := by
        rw [Int.mul_assoc] at h6
        rw [Int.mul_comm (zc_b (W 217) k : Int) (P : Int), Int.mul_left_comm (g : Int) (Q : Int), Int.mul_comm (Q : Int)] 
        rw [show (g : Int) * (zc_t (zt_er W) (W 217) k : Int) * (Q : Int) = (zc_t (zt_er W) (W 217) k : Int) * ((g : Int) * (Q : Int)) by rw [Int.mul_comm (g : Int) (zc_t (zt_er W) (W 217) k : Int), Int.mul_assoc]]
        exact h6
      exact Int.le_of_mul_le_mul_left h7 hgi
    · show (zc_L (zt_er V) (zt_sp V) p q k0 - 1) * (P : Int) = (Q : Int) * (V (40 + 5 * k0) 2 - zc_E (zt_er V) (zt_sp V) p q k0)
      rw [← f0.1, ← f0.2.1, c1, c2]
      rw [Int.mul_right_comm, Int.mul_comm ((g : Int) * P) Q]
/-- the cells that the cutter writes when it looks for breaks -/
def zc_Sc : Nat → Prop := fun a => a = 215 ∨ a = 217 ∨ a = 218 ∨ a = 219 ∨ a = 220 ∨ a = 221
/-- two tellings of one tree -/
def zc_e (e : Nat → Int) (S : Nat → Bool) (e' : Nat → Int) (S' : Nat → Bool) : Prop := ∀ k, 1 ≤ k → k < 32 → e k = e' k ∧ S k = S' k ∧ (S k = true → k < 16)
theorem zc_e_sy {e e' : Nat → Int} {S S' : Nat → Bool} (h : zc_e e S e' S') : zc_e e' S' e S := fun k h1 h2 => ⟨(h k h1 h2).1.symm, (h k h1 h2).2.1.symm, fun q => (h k h1 h2).2.2 (by rw [(h k h1 h2).2.1]; exact q)⟩
section ZCe
variable {e e' : Nat → Int} {S S' : Nat → Bool}
theorem zc_C_c (h : zc_e e S e' S') (p q : Int) : ∀ k, 1 ≤ k → k < 32 → zc_C e S p q k = zc_C e' S' p q k ∧ (zc_k e S p q k ↔ zc_k e' S' p q k) := by
  apply zc_ind
  intro k hk ih hk2
  obtain ⟨h1, h2, h3⟩ := h k hk hk2
  have hkk : zc_k e S p q k ↔ zc_k e' S' p q k := by
    unfold zc_k
    rw [h1, h2]
    constructor
    · rintro ⟨a, b, c⟩
      have := h3 (by rw [h2]; exact b)
      have i := ih hk2
      rw [(i.1 (by omega)).1, (i.2 (by omega)).1] at c
      exact ⟨a, b, c⟩
    · rintro ⟨a, b, c⟩
      have := h3 (by rw [h2]; exact b)
      have i := ih hk2
      rw [← (i.1 (by omega)).1, ← (i.2 (by omega)).1] at c
      exact ⟨a, b, c⟩
  refine ⟨?_, hkk⟩
  by_cases g : zc_k e S p q k
  · have := h3 g.2.1
    have i := ih hk2
    rw [zc_C_k g, zc_C_k (hkk.mp g), (i.1 (by omega)).1, (i.2 (by omega)).1]
  · rw [zc_C_n g, zc_C_n (fun z => g (hkk.mpr z)), h1]
theorem zc_L_c (h : zc_e e S e' S') (p q : Int) : ∀ k, 1 ≤ k → k < 32 → zc_L e S p q k = zc_L e' S' p q k := by
  apply zc_ind
  intro k hk ih hk2
  have hkk := (zc_C_c h p q k hk hk2).2
  by_cases g : zc_k e S p q k
  · have := (h k hk hk2).2.2 g.2.1
    have i := ih hk2
    rw [zc_L_k g, zc_L_k (hkk.mp g), i.1 (by omega), i.2 (by omega)]
  · rw [zc_L_n g, zc_L_n (fun z => g (hkk.mpr z))]
theorem zc_sh_c (h : zc_e e S e' S') {kd kd' : Nat → Int} (hk : ∀ k, 1 ≤ k → k < 32 → kd k = kd' k) (p q : Int) : ∀ k, 1 ≤ k → k < 32 → zc_sh e S kd p q k = zc_sh e' S' kd' p q k := by
  unfold zc_sh
  apply zt_do_c
  intro j j1 j2
  unfold zc_kk
  rw [hk j j1 j2]
  have hkk := (zc_C_c h p q j j1 j2).2
  by_cases g : zc_kb e S p q j = true
  · rw [if_pos g, if_pos (zc_kb_iff.mpr (hkk.mp (zc_kb_iff.mp g)))]
  · rw [if_neg g, if_neg (fun z => g (zc_kb_iff.mpr (hkk.mpr (zc_kb_iff.mp z))))]
theorem zc_Br_c (h : zc_e e S e' S') (x y : Int) : zc_Br e S x y ↔ zc_Br e' S' x y := by
  unfold zc_Br
  rw [zc_L_c h x y 1 (by omega) (by omega), zc_L_c h (1000 * x - 1) (1000 * y) 1 (by omega) (by omega)]
theorem zc_nb_c (h : zc_e e S e' S') (p q x y : Int) : zc_nb e S p q x y ↔ zc_nb e' S' p q x y := by
  unfold zc_nb
  constructor
  · rintro ⟨a, b, c⟩
    exact ⟨(zc_Br_c h x y).mp a, b, fun u v q => c u v ((zc_Br_c h u v).mpr q)⟩
  · rintro ⟨a, b, c⟩
    exact ⟨(zc_Br_c h x y).mpr a, b, fun u v q => c u v ((zc_Br_c h u v).mp q)⟩
theorem zc_kt_c (h : zc_e e S e' S') : ∀ m x y, zc_kt e S m x y ↔ zc_kt e' S' m x y
  | 0, x, y => zc_nb_c h 0 1 x y
  | m + 1, x, y => by
    constructor
    · rintro ⟨p, q, a, b⟩; exact ⟨p, q, (zc_kt_c h m p q).mp a, (zc_nb_c h p q x y).mp b⟩
    · rintro ⟨p, q, a, b⟩; exact ⟨p, q, (zc_kt_c h m p q).mpr a, (zc_nb_c h p q x y).mpr b⟩
end ZCe
theorem zc_W_fr {V W : zg_V} (h : zv_on zc_Sc V W) (hW : zc_W V) : zc_W W ∧ zc_e (zt_er W) (zt_sp W) (zt_er V) (zt_sp V) ∧ W 201 = V 201 ∧ ∀ k, k < 32 → W (40 + 5 * k) = V (40 + 5 * k) := by
  have h201 : W 201 = V 201 := h 201 (by unfold zc_Sc; omega)
  have hn : ∀ k, k < 32 → W (40 + 5 * k) = V (40 + 5 * k) := fun k hk => h (40 + 5 * k) (by unfold zc_Sc; omega)
  obtain ⟨w1, w2, w3⟩ := hW
  refine ⟨⟨fun k hk => by rw [hn k hk]; exact w1 k hk, by rw [h201]; exact w2, fun k hk q => w3 k hk (by rw [← h201]; exact q)⟩, fun k k1 k2 => ⟨?_, ?_, ?_⟩, h201, hn⟩
  · show W (40 + 5 * k) 2 = V (40 + 5 * k) 2
    rw [hn k k2]
  · show decide (W 201 k = 2) = decide (V 201 k = 2)
    rw [h201]
  · intro q
    exact w3 k k2 (by rw [← h201]; exact of_decide_eq_true q)
theorem zc_red {x y x' y' : Int} (hx : 1 ≤ x) (hy : 1 ≤ y) (hx' : 1 ≤ x') (hy' : 1 ≤ y') (h1 : Int.gcd x y = 1) (h2 : Int.gcd x' y' = 1) (h : x * y' = x' * y) : x = x' ∧ y = y' := by
  obtain ⟨a, rfl⟩ := Int.eq_ofNat_of_zero_le (show 0 ≤ x by omega)
  obtain ⟨b, rfl⟩ := Int.eq_ofNat_of_zero_le (show 0 ≤ y by omega)
  obtain ⟨a', rfl⟩ := Int.eq_ofNat_of_zero_le (show 0 ≤ x' by omega)
  obtain ⟨b', rfl⟩ := Int.eq_ofNat_of_zero_le (show 0 ≤ y' by omega)
  have c1 : Nat.Coprime a b := h1
  have c2 : Nat.Coprime a' b' := h2
  have hN : a * b' = a' * b := by
    rw [← Int.natCast_mul, ← Int.natCast_mul] at h
    exact Int.ofNat.inj h
  have d1 : a ∣ a' := c1.dvd_of_dvd_mul_right (by rw [← hN]; exact Nat.dvd_mul_right a b')
  have d2 : a' ∣ a := c2.dvd_of_dvd_mul_right (by rw [hN]; exact Nat.dvd_mul_right a' b)
  have e : a = a' := Nat.dvd_antisymm d1 d2
  subst e
  have hb : b' = b := Nat.eq_of_mul_eq_mul_left (by omega) hN
  exact ⟨rfl, by rw [hb]⟩
theorem zc_nb_u {e : Nat → Int} {S : Nat → Bool} {p q x y x' y' : Int} (h : zc_nb e S p q x y) (h' : zc_nb e S p q x' y') : x = x' ∧ y = y' := by
  have a1 := h.2.2 x' y' h'.1 h'.2.1
  have a2 := h'.2.2 x y h.1 h.2.1
  exact zc_red h.1.1.1 h.1.2.1.1 h'.1.1.1 h'.1.2.1.1 h.1.2.2.1 h'.1.2.2.1 (by omega)
theorem zc_kt_u {e : Nat → Int} {S : Nat → Bool} : ∀ {m : Nat} {x y x' y' : Int}, zc_kt e S m x y → zc_kt e S m x' y' → x = x' ∧ y = y'
  | 0, _, _, _, _, h, h' => zc_nb_u h h'
  | m + 1, _, _, _, _, ⟨p, q, a, b⟩, ⟨p', q', a', b'⟩ => by
    obtain ⟨rfl, rfl⟩ := zc_kt_u a a'
    exact zc_nb_u b b'
theorem zc_kt_b {e : Nat → Int} {S : Nat → Bool} {m : Nat} {x y : Int} (h : zc_kt e S m x y) : zc_Br e S x y := by
  cases m with
  | zero => exact h.1
  | succ m => obtain ⟨p, q, -, h⟩ := h; exact h.1
section ZT17
variable {Γ : zg_C} {V : zg_V} {sh : Nat}
theorem ct_fbreak (hW : zc_W V) (hk0 : zt_kd (V 217)) (h0 : V 217 0 ≠ 2) {m : Nat} (hm : m < 15) : zg_S Γ zm_Cutter_findBreak 3 0 0 [zg_r Γ 214, zg_r Γ 200, zg_r Γ 39, zg_i m] zk_K 242 (zk_P sh) V (zq_r zk_K 242 (zk_P sh) (fun rr V' => zv_on zc_Sc V V' ∧ zt_kd (V' 217) ∧ V' 217 0 ≠ 2 ∧ ((rr = some (zg_i 0) ∧ ∀ x y, ¬ zc_kt (zt_er V) (zt_sp V) m x y) ∨ (rr = some (zg_i 1) ∧ zc_kt (zt_er V) (zt_sp V) m (V' 215 0) (V' 215 1))))) := by
  generalize hQ : zq_r zk_K 242 (zk_P sh) (fun rr V' => zv_on zc_Sc V V' ∧ zt_kd (V' 217) ∧ V' 217 0 ≠ 2 ∧ ((rr = some (zg_i 0) ∧ ∀ x y, ¬ zc_kt (zt_er V) (zt_sp V) m x y) ∨ (rr = some (zg_i 1) ∧ zc_kt (zt_er V) (zt_sp V) m (V' 215 0) (V' 215 1)))) = Q
  refine zg_enter 2 (by decide) (Nat.le_of_ble_eq_true rfl) rfl ?_
  -- look for the weakest
  have weak : ∀ (i j : Nat) (W1 : zg_V) (p q : Int), i + (j + 1) = m → zv_on zc_Sc V W1 → zt_kd (W1 217) → W1 217 0 ≠ 2 → 0 ≤ p → (0 < q ∧ q ≤ 15) → (∀ k, 1 ≤ k → k < 32 → W1 217 k = zc_sh (zt_er V) (zt_sp V) (V 201) p q k) → zc_kt (zt_er V) (zt_sp V) i p q →
      (∀ (i : Nat) (W : zg_V) (β : Bool) (hij : i + j = m) (hV : zv_on zc_Sc V W) (hkW : zt_kd (W 217)) (hW0 : W 217 0 ≠ 2) (hc : (β = false ∧ ∀ x y, ¬ zc_kt (zt_er V) (zt_sp V) i x y) ∨ (β = true ∧ zc_kt (zt_er V) (zt_sp V) i (W 215 0) (W 215 1))), zg_G Γ (fun _ => True) zm_Cutter_findBreak (zg_rm 3 0 0) (zg_Ω Γ (Q) 0 0) 0 0 22 [some (zg_r Γ (214)), some (zg_r Γ (200)), some (zg_r Γ (39)), some (zg_i (m)), some (zg_i (zg_b β)), some (zg_i ((i : Nat)))] [] zk_K 242 (zk_P sh) (W)) → zg_G Γ (fun _ => True) zm_Cutter_findBreak (zg_rm 3 0 0) (zg_Ω Γ (Q) 0 0) 0 0 59 [some (zg_r Γ (214)), some (zg_r Γ (200)), some (zg_r Γ (39)), some (zg_i (m)), some (zg_i (zg_b true)), some (zg_i ((i : Nat)))] [] zk_K 242 (zk_P sh) (W1) := by
    intro i j W1 p q hij v1 t2 w0 hp hq hr1 hkt ih
    obtain ⟨hWW1, hE1, h2011, hn1⟩ := zc_W_fr v1 hW
    obtain ⟨h16, heq, hpos⟩ := zc_rest hW hp hq.1 hr1 t2 w0 hn1
    refine zg_al0 zd_Cutter_findBreak_59 ?_
    refine zg_al2 zd_Cutter_findBreak_60 ?_
    refine zg_cVr1 zd_Cutter_findBreak_61 zM_Cutter_findWeakest zw_603 zi_Cutter_findWeakest zs_Cutter_findWeakest (ct_weak hWW1.1 t2 h16 hpos) (by decide) (by decide) (by omega) (by first | assumption | rfl) (by decide) rfl (Nat.le_of_ble_eq_true rfl) ?_
    intro r2 W2 hq2
    obtain ⟨u1, β, rfl, u2⟩ := hq2
    have hst := zc_step hW hp hq hr1 t2 w0 hn1 u2
    have v2 : zv_on zc_Sc V W2 := zv_on_tr v1 (zv_on_mono u1 (fun b hb => by unfold zc_Sc; omega))
    have h217 : W2 217 = W1 217 := u1 217 (by omega)
    refine zg_is4 zd_Cutter_findBreak_64 (fun w h => by cases h <;> rfl) (by decide) ?_
    refine zg_inc5 zd_Cutter_findBreak_66 (fun w h => by cases h <;> rfl) (by decide) ?_
    refine zg_goto (tgt := 22) zd_Cutter_findBreak_69 (by decide) ?_
    refine ih (i + 1) W2 β (by omega) v2 (by rw [h217]; exact t2) (by rw [h217]; exact w0) ?_
    rcases hst with ⟨b, hno⟩ | ⟨b, hnb⟩
    · refine Or.inl ⟨b, fun x y hk => ?_⟩
      obtain ⟨p', q', a', b'⟩ := hk
      obtain ⟨rfl, rfl⟩ := zc_kt_u hkt a'
      exact hno x y b'
    · exact Or.inr ⟨b, p, q, hkt, hnb⟩
  -- one pass: cut, then look for the weakest
  have key : ∀ (j i : Nat) (W : zg_V) (β : Bool) (hij : i + j = m) (hV : zv_on zc_Sc V W) (hkW : zt_kd (W 217)) (hW0 : W 217 0 ≠ 2) (hc : (β = false ∧ ∀ x y, ¬ zc_kt (zt_er V) (zt_sp V) i x y) ∨ (β = true ∧ zc_kt (zt_er V) (zt_sp V) i (W 215 0) (W 215 1))), zg_G Γ (fun _ => True) zm_Cutter_findBreak (zg_rm 3 0 0) (zg_Ω Γ (Q) 0 0) 0 0 22 [some (zg_r Γ (214)), some (zg_r Γ (200)), some (zg_r Γ (39)), some (zg_i (m)), some (zg_i (zg_b β)), some (zg_i ((i : Nat)))] [] zk_K 242 (zk_P sh) (W) := by
    intro j
    induction j with
    | zero =>
      intro i W β hij hV hkW hW0 hc
      have e : i = m := by omega
      subst e
      refine zg_il5 zd_Cutter_findBreak_22 ?_
      refine zg_il3 zd_Cutter_findBreak_24 ?_
      refine zg_icmp_ge (tgt := 72) zd_Cutter_findBreak_25 (by decide) (by omega) (by omega) (fun b25 => ?_) (fun b25 => ?_)
      · refine zg_il4 zd_Cutter_findBreak_72 ?_
        refine zg_zreturn zd_Cutter_findBreak_74 rfl (zg_b01 _) ?_
        subst hQ
        refine ⟨rfl, rfl, rfl, hV, hkW, hW0, ?_⟩
        rcases hc with ⟨rfl, h⟩ | ⟨rfl, h⟩
        · exact Or.inl ⟨rfl, h⟩
        · exact Or.inr ⟨rfl, h⟩
      · omega
    | succ j ih =>
      intro i W β hij hV hkW hW0 hc
      rcases hc with ⟨rfl, h⟩ | ⟨rfl, h⟩
      · skip
        refine zg_il5 zd_Cutter_findBreak_22 ?_
        refine zg_il3 zd_Cutter_findBreak_24 ?_
        refine zg_icmp_ge (tgt := 72) zd_Cutter_findBreak_25 (by decide) (by omega) (by omega) (fun b25 => ?_) (fun b25 => ?_)
        · refine zg_il4 zd_Cutter_findBreak_72 ?_
          refine zg_zreturn zd_Cutter_findBreak_74 rfl (zg_b01 _) ?_
          first
          | omega
          | (subst hQ
             exact ⟨rfl, rfl, rfl, hV, hkW, hW0, Or.inl ⟨rfl, zc_kt_no h m (by omega)⟩⟩)
        · refine zg_il4 zd_Cutter_findBreak_28 ?_
          refine zg_if_eqB (tgt := 72) zd_Cutter_findBreak_30 (by decide) (fun b30 => ?_) (fun b30 => ?_)
          · refine zg_il4 zd_Cutter_findBreak_72 ?_
            refine zg_zreturn zd_Cutter_findBreak_74 rfl (zg_b01 _) ?_
            first
            | omega
            | (subst hQ
               exact ⟨rfl, rfl, rfl, hV, hkW, hW0, Or.inl ⟨rfl, zc_kt_no h m (by omega)⟩⟩)
          · cases b30
      · obtain ⟨hWW, hE, h201, hn⟩ := zc_W_fr hV hW
        have hb : (1 ≤ W 215 0 ∧ W 215 0 ≤ 16) ∧ (1 ≤ W 215 1 ∧ W 215 1 ≤ 15) := by
          cases i with
          | zero => exact ⟨h.1.1, h.1.2.1⟩
          | succ i => obtain ⟨p, q, -, h⟩ := h; exact ⟨h.1.1, h.1.2.1⟩
        refine zg_il5 zd_Cutter_findBreak_22 ?_
        refine zg_il3 zd_Cutter_findBreak_24 ?_
        refine zg_icmp_ge (tgt := 72) zd_Cutter_findBreak_25 (by decide) (by omega) (by omega) (fun b25 => ?_) (fun b25 => ?_)
        · first
          | omega
          | cases b30
        · refine zg_il4 zd_Cutter_findBreak_28 ?_
          refine zg_if_eqB (tgt := 72) zd_Cutter_findBreak_30 (by decide) (fun b30 => ?_) (fun b30 => ?_)
          · first
            | omega
            | cases b30
          · refine zg_al0 zd_Cutter_findBreak_33 ?_
            refine zg_al1 zd_Cutter_findBreak_34 ?_
            refine zg_al2 zd_Cutter_findBreak_35 ?_
            refine zg_al0 zd_Cutter_findBreak_36 ?_
            refine zg_getr zd_Cutter_findBreak_37 zf_245 (by omega) (by first | assumption | rfl) rfl (by first | assumption | rfl) ?_
            refine zg_getl zd_Cutter_findBreak_40 zf_80 (by omega) (by first | assumption | rfl) rfl ?_
            refine zg_l2i zd_Cutter_findBreak_43 ?_
            refine zg_al0 zd_Cutter_findBreak_44 ?_
            refine zg_getr zd_Cutter_findBreak_45 zf_245 (by omega) (by first | assumption | rfl) rfl (by first | assumption | rfl) ?_
            refine zg_getl zd_Cutter_findBreak_48 zf_83 (by omega) (by first | assumption | rfl) rfl ?_
            refine zg_l2i zd_Cutter_findBreak_51 ?_
            refine zg_al0 zd_Cutter_findBreak_52 ?_
            refine zg_getr zd_Cutter_findBreak_53 zf_247 (by omega) (by first | assumption | rfl) rfl (by first | assumption | rfl) ?_
            refine zg_cVr5 zd_Cutter_findBreak_56 zM_Cutter_trim zw_602 zi_Cutter_trim zs_Cutter_trim (ct_trim (Or.inr rfl) (p := W 215 0) (q := W 215 1) (by omega) (by omega) hWW hkW) (by decide) (by decide) (by omega) (by first | assumption | rfl) (by decide) rfl (Nat.le_of_ble_eq_true rfl) ?_
            intro r1 W1 hq1
            obtain ⟨rfl, t1, t2, t3, t4⟩ := hq1
            have v1 : zv_on zc_Sc V W1 := zv_on_tr hV (zv_on_mono t1 (fun b hb => by unfold zc_Sc; omega))
            obtain ⟨hWW1, hE1, h2011, hn1⟩ := zc_W_fr v1 hW
            have hr1 : ∀ k, 1 ≤ k → k < 32 → W1 217 k = zc_sh (zt_er V) (zt_sp V) (V 201) (W 215 0) (W 215 1) k := fun k k1 k2 => by rw [t4 k k1 k2]; exact zc_sh_c hE (fun k _ _ => by rw [h201]) _ _ k k1 k2
            have w0 : W1 217 0 ≠ 2 := by rw [t3]; exact hW0
            exact weak i j W1 _ _ hij v1 t2 w0 (by omega) (by omega) hr1 h ih
  have first : ∀ W1 : zg_V, zv_on (fun a => a = 219 ∨ a = 217) V W1 → zt_kd (W1 217) → W1 217 0 ≠ 2 → (∀ k, 1 ≤ k → k < 32 → W1 217 k = zc_sh (zt_er V) (zt_sp V) (V 201) 0 1 k) → zg_G Γ (fun _ => True) zm_Cutter_findBreak (zg_rm 3 0 0) (zg_Ω Γ (Q) 0 0) 0 0 12 [some (zg_r Γ (214)), some (zg_r Γ (200)), some (zg_r Γ (39)), some (zg_i (m)), none, none] [] zk_K 242 (zk_P sh) (W1) := by
    intro W1 t1 t2 w0 hr1
    have v1 : zv_on zc_Sc V W1 := zv_on_mono t1 (fun b hb => by unfold zc_Sc; omega)
    obtain ⟨hWW1, hE1, h2011, hn1⟩ := zc_W_fr v1 hW
    obtain ⟨h16, heq, hpos⟩ := zc_rest hW (Int.le_refl 0) (by decide) hr1 t2 w0 hn1
    refine zg_al0 zd_Cutter_findBreak_12 ?_
    refine zg_al2 zd_Cutter_findBreak_13 ?_
    refine zg_cVr1 zd_Cutter_findBreak_14 zM_Cutter_findWeakest zw_603 zi_Cutter_findWeakest zs_Cutter_findWeakest (ct_weak hWW1.1 t2 h16 hpos) (by decide) (by decide) (by omega) (by first | assumption | rfl) (by decide) rfl (Nat.le_of_ble_eq_true rfl) ?_
    intro r2 W2 hq2
    obtain ⟨u1, β, rfl, u2⟩ := hq2
    have hst := zc_step hW (Int.le_refl 0) (by decide) hr1 t2 w0 hn1 u2
    have v2 : zv_on zc_Sc V W2 := zv_on_tr v1 (zv_on_mono u1 (fun b hb => by unfold zc_Sc; omega))
    have h217 : W2 217 = W1 217 := u1 217 (by omega)
    refine zg_is4 zd_Cutter_findBreak_17 (fun w h => by cases h <;> rfl) (by decide) ?_
    refine zg_iconst zd_Cutter_findBreak_19 ?_
    refine zg_is5 zd_Cutter_findBreak_20 (fun w h => by cases h <;> rfl) (by decide) ?_
    exact key m 0 W2 β (by omega) v2 (by rw [h217]; exact t2) (by rw [h217]; exact w0) hst
  refine zg_al0 zd_Cutter_findBreak_0 ?_
  refine zg_al1 zd_Cutter_findBreak_1 ?_
  refine zg_al2 zd_Cutter_findBreak_2 ?_
  refine zg_iconst zd_Cutter_findBreak_3 ?_
  refine zg_iconst zd_Cutter_findBreak_4 ?_
  refine zg_al0 zd_Cutter_findBreak_5 ?_
  refine zg_getr zd_Cutter_findBreak_6 zf_247 (by omega) (by first | assumption | rfl) rfl (by first | assumption | rfl) ?_
  refine zg_cVr5 zd_Cutter_findBreak_9 zM_Cutter_trim zw_602 zi_Cutter_trim zs_Cutter_trim (ct_trim (Or.inr rfl) (p := 0) (q := 1) (by omega) (by omega) hW hk0) (by decide) (by decide) (by omega) (by first | assumption | rfl) (by decide) rfl (Nat.le_of_ble_eq_true rfl) ?_
  intro r1 W1 hq1
  obtain ⟨rfl, t1, t2, t3, t4⟩ := hq1
  exact first W1 t1 t2 (by rw [t3]; exact h0) t4
end ZT17

