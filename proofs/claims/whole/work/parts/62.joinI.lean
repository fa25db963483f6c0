/-! the tree of both sides: what holds of it, and a turn on each side -/
theorem zt_fw_c {f g : Nat → Int} : ∀ (m i : Nat), (∀ k, i ≤ k → k < i + m → f k = g k) → zt_fw f m i = zt_fw g m i
  | 0, _, _ => rfl
  | m + 1, i, h => by
    rw [zt_fw_s, zt_fw_s, h i (by omega) (by omega), zt_fw_c m (i + 1) (fun k h1 h2 => h k (by omega) (by omega))]
theorem zt_fw_w {f : Nat → Int} : ∀ (m i : Nat), zt_fw f m i = 0 ∨ (i ≤ zt_fw f m i ∧ zt_fw f m i < i + m ∧ f (zt_fw f m i) = 0)
  | 0, _ => Or.inl rfl
  | m + 1, i => by
    rw [zt_fw_s]
    by_cases h : f i = 0
    · rw [if_pos h]
      exact Or.inr ⟨by omega, by omega, h⟩
    · rw [if_neg h]
      rcases zt_fw_w (f := f) m (i + 1) with q | ⟨q1, q2, q3⟩
      · exact Or.inl q
      · exact Or.inr ⟨by omega, by omega, q3⟩
theorem zr_dp_2 {k lim : Nat} (hk : 1 ≤ k ∧ k < 32) (hl : lim ≤ 4) : (zr_dp k ≤ (lim : Int) ↔ k < 2 ^ (lim + 1)) ∧ (k < 2 ^ (lim + 1) → (zr_dp k = (lim : Int) ↔ 2 ^ lim ≤ k)) := by
  unfold zr_dp
  match lim, hl with
  | 0, _ => repeat' split
            all_goals omega
  | 1, _ => repeat' split
            all_goals omega
  | 2, _ => repeat' split
            all_goals omega
  | 3, _ => repeat' split
            all_goals omega
  | 4, _ => repeat' split
            all_goals omega
  | n + 5, h => omega
theorem zt_st_b {V : zg_V} {n : Nat} (hT : zt_T V n) (s : Nat) : 0 ≤ zt_w (V 20) s n - (zt_mj (V 19) (V 20) s n 4).2 ∧ zt_w (V 20) s n - (zt_mj (V 19) (V 20) s n 4).2 ≤ 16 := by
  obtain ⟨h1, h2, h3, h4, h5, h6⟩ := hT
  have hb := zr_ek_b (V := fun a j => if a = 223 then (n : Int) else if a = 224 then 0 else if a = 225 then V 19 j else V 20 j) (n := n) ⟨rfl, h2, fun r f _ _ => ⟨by show _ ≤ (0 : Int); decide, by show (0 : Int) < _; decide⟩, h4, h5, h6⟩ s
  have e : zt_mj (V 19) (V 20) s n 4 = (zr_ci (zt_ms (V 19) (V 20) s n) 3, zt_ms (V 19) (V 20) s n (zr_ci (zt_ms (V 19) (V 20) s n) 3)) := zt_mj_ci (zt_w_b h5 h2 _).1 3
  rw [e]
  exact hb
/-- what holds of a tree's kinds, rows, features and borders -/
def zj_I (T : zj_T) (n lim : Nat) : Prop :=
  (∀ k, k < 32 → -1 ≤ T.1 k ∧ T.1 k ≤ 2) ∧ T.1 0 = -1 ∧ (∀ k, k < 32 → T.2.1 k < 2 ^ n) ∧ (∀ k, k < 32 → T.1 k = -1 → T.2.1 k = 0) ∧
  (∀ k, k < 32 → T.1 k = 2 → k < 16 ∧ T.2.2.1 k < 3 ∧ (-2147483648 ≤ T.2.2.2 k ∧ T.2.2.2 k < 2147483648) ∧ T.1 (2 * k) ≠ -1 ∧ T.1 (2 * k + 1) ≠ -1) ∧
  (∀ k, 1 ≤ k → k < 16 → T.1 k ≠ 2 → T.1 (2 * k) = -1 ∧ T.1 (2 * k + 1) = -1) ∧ (∀ k, 1 ≤ k → k < 32 → T.1 k ≠ -1 → k < 2 ^ (lim + 1)) ∧ T.1 1 ≠ -1
theorem zj_I_leaf {T : zj_T} {n lim k : Nat} (hI : zj_I T n lim) (hk : 1 ≤ k ∧ k < 32) (hw : T.1 k = 0) : zj_I (zj_u T.1 k 1, T.2.1, T.2.2.1, T.2.2.2) n lim := by
  obtain ⟨i1, i2, i3, i4, i5, i6, i7, i8⟩ := hI
  have ei : ∀ j, j = k → zj_u T.1 k 1 j = 1 := fun j h => by rw [h]; exact zj_u_i _ _ _
  have eo : ∀ j, j ≠ k → zj_u T.1 k 1 j = T.1 j := fun j h => zj_u_o _ _ _ h
  refine ⟨fun j hj => ?_, ?_, i3, fun j hj h => ?_, fun j hj h => ?_, fun j j1 j2 h => ?_, fun j j1 j2 h => ?_, ?_⟩
  · show -1 ≤ zj_u T.1 k 1 j ∧ zj_u T.1 k 1 j ≤ 2
    by_cases q : j = k
    · rw [ei j q]; omega
    · rw [eo j q]; exact i1 j hj
  · show zj_u T.1 k 1 0 = -1
    rw [eo 0 (by omega)]; exact i2
  · have h : zj_u T.1 k 1 j = -1 := h
    by_cases q : j = k
    · rw [ei j q] at h; omega
    · rw [eo j q] at h; exact i4 j hj h
  · have h : zj_u T.1 k 1 j = 2 := h
    by_cases q : j = k
    · rw [ei j q] at h; omega
    · rw [eo j q] at h
      obtain ⟨a, b, c, d, e⟩ := i5 j hj h
      refine ⟨a, b, c, ?_, ?_⟩
      · show zj_u T.1 k 1 (2 * j) ≠ -1
        by_cases q2 : 2 * j = k
        · rw [ei _ q2]; omega
        · rw [eo _ q2]; exact d
      · show zj_u T.1 k 1 (2 * j + 1) ≠ -1
        by_cases q2 : 2 * j + 1 = k
        · rw [ei _ q2]; omega
        · rw [eo _ q2]; exact e
  · have h : zj_u T.1 k 1 j ≠ 2 := h
    have hT2 : T.1 j ≠ 2 := by
      by_cases q : j = k
      · subst q; omega
      · rw [eo j q] at h; exact h
    obtain ⟨a, b⟩ := i6 j j1 j2 hT2
    refine ⟨?_, ?_⟩
    · show zj_u T.1 k 1 (2 * j) = -1
      by_cases q2 : 2 * j = k
      · rw [q2] at a; omega
      · rw [eo _ q2]; exact a
    · show zj_u T.1 k 1 (2 * j + 1) = -1
      by_cases q2 : 2 * j + 1 = k
      · rw [q2] at b; omega
      · rw [eo _ q2]; exact b
  · have h : zj_u T.1 k 1 j ≠ -1 := h
    by_cases q : j = k
    · subst q; exact i7 j j1 j2 (by omega)
    · rw [eo j q] at h; exact i7 j j1 j2 h
  · show zj_u T.1 k 1 1 ≠ -1
    by_cases q : 1 = k
    · rw [ei 1 q]; omega
    · rw [eo 1 q]; exact i8
theorem zj_I_split {T : zj_T} {n lim k f0 l r : Nat} {t0 : Int} (hI : zj_I T n lim) (hk : 1 ≤ k ∧ k < 32) (hw : T.1 k = 0) (hlim : lim ≤ 4) (hkl : k < 2 ^ lim) (hf : f0 < 3) (ht : -2147483648 ≤ t0 ∧ t0 < 2147483648) (hl : l < 2 ^ n) (hr : r < 2 ^ n) :
    zj_I (zj_u (zj_u (zj_u T.1 k 2) (2 * k) 0) (2 * k + 1) 0, zj_u (zj_u T.2.1 (2 * k) l) (2 * k + 1) r, zj_u T.2.2.1 k f0, zj_u T.2.2.2 k t0) n lim := by
  obtain ⟨i1, i2, i3, i4, i5, i6, i7, i8⟩ := hI
  have hk16 : k < 16 := Nat.lt_of_lt_of_le hkl (Nat.pow_le_pow_right (n := 2) (by omega) hlim)
  have hp : 2 ^ (lim + 1) = 2 * 2 ^ lim := by rw [Nat.pow_succ]; omega
  obtain ⟨c1, c2⟩ := i6 k hk.1 hk16 (by omega)
  have eK : ∀ j, zj_u (zj_u (zj_u T.1 k 2) (2 * k) 0) (2 * k + 1) 0 j = if j = 2 * k + 1 then 0 else if j = 2 * k then 0 else if j = k then 2 else T.1 j := fun j => rfl
  have eR : ∀ j, zj_u (zj_u T.2.1 (2 * k) l) (2 * k + 1) r j = if j = 2 * k + 1 then r else if j = 2 * k then l else T.2.1 j := fun j => rfl
  have eF : ∀ j, zj_u T.2.2.1 k f0 j = if j = k then f0 else T.2.2.1 j := fun j => rfl
  have eB : ∀ j, zj_u T.2.2.2 k t0 j = if j = k then t0 else T.2.2.2 j := fun j => rfl
  refine ⟨fun j hj => ?_, ?_, fun j hj => ?_, fun j hj h => ?_, fun j hj h => ?_, fun j j1 j2 h => ?_, fun j j1 j2 h => ?_, ?_⟩
  · show -1 ≤ zj_u (zj_u (zj_u T.1 k 2) (2 * k) 0) (2 * k + 1) 0 j ∧ zj_u (zj_u (zj_u T.1 k 2) (2 * k) 0) (2 * k + 1) 0 j ≤ 2
    have := i1 j hj
    rw [eK]
    repeat' split
    all_goals omega
  · show zj_u (zj_u (zj_u T.1 k 2) (2 * k) 0) (2 * k + 1) 0 0 = -1
    rw [eK, if_neg (by omega), if_neg (by omega), if_neg (by omega)]; exact i2
  · show zj_u (zj_u T.2.1 (2 * k) l) (2 * k + 1) r j < 2 ^ n
    have := i3 j hj
    rw [eR]
    repeat' split
    all_goals assumption
  · have h : zj_u (zj_u (zj_u T.1 k 2) (2 * k) 0) (2 * k + 1) 0 j = -1 := h
    show zj_u (zj_u T.2.1 (2 * k) l) (2 * k + 1) r j = 0
    rw [eK] at h
    by_cases q1 : j = 2 * k + 1
    · rw [if_pos q1] at h; omega
    · by_cases q2 : j = 2 * k
      · rw [if_neg q1, if_pos q2] at h; omega
      · by_cases q3 : j = k
        · rw [if_neg q1, if_neg q2, if_pos q3] at h; omega
        · rw [if_neg q1, if_neg q2, if_neg q3] at h
          rw [eR, if_neg q1, if_neg q2]
          exact i4 j hj h
  · have h : zj_u (zj_u (zj_u T.1 k 2) (2 * k) 0) (2 * k + 1) 0 j = 2 := h
    show j < 16 ∧ zj_u T.2.2.1 k f0 j < 3 ∧ (-2147483648 ≤ zj_u T.2.2.2 k t0 j ∧ zj_u T.2.2.2 k t0 j < 2147483648) ∧ zj_u (zj_u (zj_u T.1 k 2) (2 * k) 0) (2 * k + 1) 0 (2 * j) ≠ -1 ∧ zj_u (zj_u (zj_u T.1 k 2) (2 * k) 0) (2 * k + 1) 0 (2 * j + 1) ≠ -1
    rw [eK] at h
    by_cases q1 : j = 2 * k + 1
    · rw [if_pos q1] at h; omega
    · by_cases q2 : j = 2 * k
      · rw [if_neg q1, if_pos q2] at h; omega
      · by_cases q3 : j = k
        · subst q3
          rw [eF, eB, if_pos rfl, if_pos rfl, eK, eK, if_neg (show ¬ 2 * j = 2 * j + 1 by omega), if_pos rfl, if_pos rfl]
          exact ⟨hk16, hf, ht, by omega, by omega⟩
        · rw [if_neg q1, if_neg q2, if_neg q3] at h
          obtain ⟨a, b, c, d, e⟩ := i5 j hj h
          rw [eF, eB, if_neg q3, if_neg q3, eK, eK]
          refine ⟨a, b, c, ?_, ?_⟩
          · repeat' split
            all_goals first | omega | assumption
          · repeat' split
            all_goals first | omega | assumption
  · have h : zj_u (zj_u (zj_u T.1 k 2) (2 * k) 0) (2 * k + 1) 0 j ≠ 2 := h
    show zj_u (zj_u (zj_u T.1 k 2) (2 * k) 0) (2 * k + 1) 0 (2 * j) = -1 ∧ zj_u (zj_u (zj_u T.1 k 2) (2 * k) 0) (2 * k + 1) 0 (2 * j + 1) = -1
    have q3 : j ≠ k := fun q => by
      subst q
      rw [eK, if_neg (by omega), if_neg (by omega), if_pos rfl] at h
      exact h rfl
    have hT2 : T.1 j ≠ 2 := by
      by_cases q1 : j = 2 * k + 1
      · subst q1; omega
      · by_cases q2 : j = 2 * k
        · subst q2; omega
        · rw [eK, if_neg q1, if_neg q2, if_neg q3] at h
          exact h
    obtain ⟨a, b⟩ := i6 j j1 j2 hT2
    have g1 : 2 * j ≠ k := fun q => by rw [q] at a; omega
    have g2 : 2 * j + 1 ≠ k := fun q => by rw [q] at b; omega
    rw [eK, eK, if_neg (by omega), if_neg (by omega), if_neg g1, if_neg (by omega), if_neg (by omega), if_neg g2]
    exact ⟨a, b⟩
  · have h : zj_u (zj_u (zj_u T.1 k 2) (2 * k) 0) (2 * k + 1) 0 j ≠ -1 := h
    rw [hp]
    by_cases q1 : j = 2 * k + 1
    · omega
    · by_cases q2 : j = 2 * k
      · omega
      · by_cases q3 : j = k
        · omega
        · rw [eK, if_neg q1, if_neg q2, if_neg q3] at h
          rw [← hp]
          exact i7 j j1 j2 h
  · show zj_u (zj_u (zj_u T.1 k 2) (2 * k) 0) (2 * k + 1) 0 1 ≠ -1
    rw [eK, if_neg (by omega), if_neg (by omega)]
    split
    · omega
    · exact i8
theorem zj_I_st {τ : zx_τ} {T : zj_T} {lim k : Nat} {cr lf : Int} (hI : zj_I T τ.2.2.2 lim) (hk : 1 ≤ k ∧ k < 32) (hw : T.1 k = 0) (hlim : lim ≤ 4) (hex : ∀ s f0 t0, f0 < 3 → ∃ L, zy_Ls τ s f0 t0 3 L) (hrg : ∀ p f t, f < 3 → zx_cut τ p f t → -2147483648 ≤ t ∧ t < 2147483648) : zj_I (zj_st τ cr lf lim T k) τ.2.2.2 lim := by
  by_cases hl : 2 ^ lim ≤ k
  · rw [zj_st_l (Or.inl hl)]
    exact zj_I_leaf hI hk hw
  · by_cases hb : ∃ q : Nat × Int, zx_best τ cr (T.2.1 k) (zx_Ca τ lf (T.2.1 k)) q.1 q.2
    · obtain ⟨⟨f0, t0⟩, hb⟩ := hb
      obtain ⟨L, hL⟩ := hex (T.2.1 k) f0 t0 hb.1.2
      rw [zj_st_s (by omega) hb hL]
      exact zj_I_split hI hk hw hlim (by omega) hb.1.2 (hrg _ _ _ hb.1.2 hb.1.1.1) (zs_mk_lt _ _) (zs_mk_lt _ _)
    · have n1 : zj_Bs τ cr lf (T.2.1 k) = none := zj_pk_n (fun q hq => hb ⟨q, hq⟩)
      have : zj_st τ cr lf lim T k = (zj_u T.1 k 1, T.2.1, T.2.2.1, T.2.2.2) := by
        unfold zj_st
        rw [n1, if_neg hl]
      rw [this]
      exact zj_I_leaf hI hk hw

