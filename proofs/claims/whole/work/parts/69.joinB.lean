/-! the reference's list of breaks -/
theorem zc_L_16 {e : Nat → Int} {S : Nat → Bool} (h16 : ∀ k, 1 ≤ k → k < 32 → S k = true → k < 16) (p q : Int) : zc_L e S p q 1 ≤ 16 := by
  have l4 : ∀ k, 16 ≤ k → k < 32 → zc_L e S p q k ≤ 1 := fun k h1 h2 => by
    rw [zc_L_n (fun g => by have := h16 k (by omega) h2 g.2.1; omega)]
    omega
  have st : ∀ (k : Nat) (c : Int), 1 ≤ c → zc_L e S p q (2 * k) ≤ c → zc_L e S p q (2 * k + 1) ≤ c → zc_L e S p q k ≤ 2 * c := fun k c h0 h1 h2 => by
    by_cases g : zc_k e S p q k
    · rw [zc_L_k g]; omega
    · rw [zc_L_n g]; omega
  have l3 : ∀ k, 8 ≤ k → k < 16 → zc_L e S p q k ≤ 2 := fun k h1 h2 => st k 1 (by omega) (l4 _ (by omega) (by omega)) (l4 _ (by omega) (by omega))
  have l2 : ∀ k, 4 ≤ k → k < 8 → zc_L e S p q k ≤ 4 := fun k h1 h2 => st k 2 (by omega) (l3 _ (by omega) (by omega)) (l3 _ (by omega) (by omega))
  have l1 : ∀ k, 2 ≤ k → k < 4 → zc_L e S p q k ≤ 8 := fun k h1 h2 => st k 4 (by omega) (l2 _ (by omega) (by omega)) (l2 _ (by omega) (by omega))
  exact st 1 8 (by omega) (l1 _ (by omega) (by omega)) (l1 _ (by omega) (by omega))
/-- a sorted list that holds all of C -/
def zr_bl (X Y : Nat → Int) (m : Nat) (C : Int → Int → Prop) : Prop := (∀ i j, i < j → j < m → X i * Y j < X j * Y i) ∧ (∀ i, i < m → C (X i) (Y i)) ∧ ∀ x y, C x y → ∃ i, i < m ∧ X i = x ∧ Y i = y
theorem zr_bl_ins {X Y X' Y' : Nat → Int} {m : Nat} {C C' : Int → Int → Prop} {p q : Int} (h : zr_bl X Y m C) (hpos : ∀ i, i < m → 1 ≤ X i ∧ 1 ≤ Y i) (hq : 1 ≤ q) (hC : ∀ x y, C' x y ↔ C x y ∨ (x = p ∧ y = q)) (hne : ∀ i, i < m → X i * q ≠ p * Y i)
    (hi : ∃ j, j ≤ m ∧ (∀ i, i < j → X' i = X i ∧ Y' i = Y i) ∧ X' j = p ∧ Y' j = q ∧ (∀ i, j ≤ i → i < m → X' (i + 1) = X i ∧ Y' (i + 1) = Y i ∧ p * Y i < X i * q) ∧ (j = 0 ∨ X (j - 1) * q ≤ p * Y (j - 1))) : zr_bl X' Y' (m + 1) C' := by
  obtain ⟨s, c, a⟩ := h
  obtain ⟨j, hj, h1, h2, h3, h4, h5⟩ := hi
  have pre : ∀ i, i < j → X i * q < p * Y i := by
    intro i hij
    rcases h5 with z | z
    · omega
    · have hne' := hne (j - 1) (by omega)
      have z' : X (j - 1) * q < p * Y (j - 1) := by omega
      by_cases e : i = j - 1
      · subst e; exact z'
      · have g := s i (j - 1) (by omega) (by omega)
        have p1 := hpos i (by omega)
        have p2 := hpos (j - 1) (by omega)
        exact zx_tr (d := Y (j - 1)) (c := X (j - 1)) (by omega) (by omega) (by omega) (by omega) z'
  refine ⟨fun i k hik hk => ?_, fun i hi => ?_, fun x y hxy => ?_⟩
  · rcases Nat.lt_trichotomy k j with kj | kj | kj
    · obtain ⟨a1, a2⟩ := h1 i (by omega)
      obtain ⟨b1, b2⟩ := h1 k kj
      rw [a1, a2, b1, b2]
      exact s i k hik (by omega)
    · subst kj
      obtain ⟨a1, a2⟩ := h1 i hik
      rw [a1, a2, h2, h3]
      exact pre i hik
    · obtain ⟨κ, rfl⟩ : ∃ κ, k = κ + 1 := ⟨k - 1, by omega⟩
      obtain ⟨b1, b2, b3⟩ := h4 κ (by omega) (by omega)
      rw [b1, b2]
      rcases Nat.lt_trichotomy i j with ij | ij | ij
      · obtain ⟨a1, a2⟩ := h1 i ij
        rw [a1, a2]
        exact s i κ (by omega) (by omega)
      · subst ij
        rw [h2, h3]
        exact b3
      · obtain ⟨ι, rfl⟩ : ∃ ι, i = ι + 1 := ⟨i - 1, by omega⟩
        obtain ⟨a1, a2, -⟩ := h4 ι (by omega) (by omega)
        rw [a1, a2]
        exact s ι κ (by omega) (by omega)
  · rw [hC]
    rcases Nat.lt_trichotomy i j with ij | ij | ij
    · obtain ⟨a1, a2⟩ := h1 i ij
      rw [a1, a2]
      exact Or.inl (c i (by omega))
    · subst ij
      exact Or.inr ⟨h2, h3⟩
    · obtain ⟨ι, rfl⟩ : ∃ ι, i = ι + 1 := ⟨i - 1, by omega⟩
      obtain ⟨a1, a2, -⟩ := h4 ι (by omega) (by omega)
      rw [a1, a2]
      exact Or.inl (c ι (by omega))
  · rcases (hC x y).mp hxy with z | ⟨rfl, rfl⟩
    · obtain ⟨i, hi, e1, e2⟩ := a x y z
      by_cases ij : i < j
      · obtain ⟨a1, a2⟩ := h1 i ij
        exact ⟨i, by omega, by rw [a1, e1], by rw [a2, e2]⟩
      · obtain ⟨a1, a2, -⟩ := h4 i (by omega) hi
        exact ⟨i + 1, by omega, by rw [a1, e1], by rw [a2, e2]⟩
    · exact ⟨j, by omega, h2, h3⟩
theorem zr_bl_iff {X Y : Nat → Int} {m : Nat} {C C' : Int → Int → Prop} (h : zr_bl X Y m C) (hC : ∀ x y, C x y ↔ C' x y) : zr_bl X Y m C' :=
  ⟨h.1, fun i hi => (hC _ _).mp (h.2.1 i hi), fun x y z => h.2.2 x y ((hC x y).mpr z)⟩
section ZJ9
variable {e : Nat → Int} {S : Nat → Bool} {X Y : Nat → Int} {m : Nat}
/-- at most fifteen breaks -/
theorem zr_bl_15 {C : Int → Int → Prop} (h16 : ∀ k, 1 ≤ k → k < 32 → S k = true → k < 16) (hC : ∀ x y, C x y → zc_Br e S x y) (h : zr_bl X Y m C) : m ≤ 15 := by
  obtain ⟨s, c, -⟩ := h
  have key : ∀ i, i < m → zc_L e S (X i) (Y i) 1 ≤ 15 - (i : Int) := by
    intro i
    induction i with
    | zero =>
      intro hi
      have hb := hC _ _ (c 0 hi)
      have := zc_L_16 (e := e) h16 (1000 * X 0 - 1) (1000 * Y 0)
      have := hb.2.2.2
      omega
    | succ i ih =>
      intro hi
      have g := ih (by omega)
      have hb := hC _ _ (c (i + 1) hi)
      have hb0 := hC _ _ (c i (by omega))
      have hs := s i (i + 1) (by omega) hi
      have hm : zc_L e S (1000 * X (i + 1) - 1) (1000 * Y (i + 1)) 1 ≤ zc_L e S (X i) (Y i) 1 := by
        refine zc_L_mono (by have := hb0.2.1; omega) (by have := hb.2.1; omega) ?_ 1 (by omega)
        have e1 : X i * (1000 * Y (i + 1)) = 1000 * (X i * Y (i + 1)) := by rw [Int.mul_left_comm]
        have e2 : (1000 * X (i + 1) - 1) * Y i = 1000 * (X (i + 1) * Y i) - Y i := by rw [Int.sub_mul, Int.one_mul, Int.mul_assoc]
        have := hb0.2.1
        rw [e1, e2]
        omega
      have := hb.2.2.2
      omega
  by_cases hm : m ≤ 15
  · exact hm
  · have := key 15 (by omega)
    have := zc_L_pos e S (X 15) (Y 15) 1 (by omega)
    omega
/-- the sorted list of all breaks -/
theorem zr_bl_kt (h : zr_bl X Y m (zc_Br e S)) : (∀ i, i < m → zc_kt e S i (X i) (Y i)) ∧ ∀ i, m ≤ i → ∀ x y, ¬ zc_kt e S i x y := by
  obtain ⟨s, c, a⟩ := h
  have k1 : ∀ i, i < m → zc_kt e S i (X i) (Y i) := by
    intro i
    induction i with
    | zero =>
      intro hi
      have hb := c 0 hi
      refine ⟨hb, by have := hb.1; omega, fun u v huv _ => ?_⟩
      obtain ⟨j, hj, rfl, rfl⟩ := a u v huv
      by_cases z : j = 0
      · subst z; exact Int.le_refl _
      · exact Int.le_of_lt (s 0 j (by omega) hj)
    | succ i ih =>
      intro hi
      refine ⟨X i, Y i, ih (by omega), c (i + 1) hi, s i (i + 1) (by omega) hi, fun u v huv hlt => ?_⟩
      obtain ⟨j, hj, rfl, rfl⟩ := a u v huv
      rcases Nat.lt_trichotomy j (i + 1) with z | z | z
      · exfalso
        by_cases z2 : j = i
        · subst z2; omega
        · have := s j i (by omega) (by omega)
          omega
      · subst z; exact Int.le_refl _
      · exact Int.le_of_lt (s (i + 1) j z hj)
  refine ⟨k1, fun i hi => zc_kt_no (fun x y hk => ?_) i hi⟩
  have hb := zc_kt_b hk
  obtain ⟨j, hj, rfl, rfl⟩ := a x y hb
  match m, hk, hj, s, c, k1 with
  | 0, hk, hj, s, c, k1 => omega
  | m + 1, hk, hj, s, c, k1 =>
    obtain ⟨p, q, z1, z2⟩ := hk
    obtain ⟨rfl, rfl⟩ := zc_kt_u z1 (k1 m (by omega))
    have hlt := z2.2.1
    by_cases e1 : j = m
    · subst e1; omega
    · have := s j m (by omega) (by omega)
      omega
end ZJ9
theorem zr_ne_lt {x y p q : Int} (hx : 1 ≤ x) (hy : 1 ≤ y) (hp : 1 ≤ p) (hq : 1 ≤ q) (h1 : Int.gcd x y = 1) (h2 : Int.gcd p q = 1) (hne : ¬ (x = p ∧ y = q)) : x * q ≠ p * y := fun h => hne (zc_red hx hy hp hq h1 h2 h)

