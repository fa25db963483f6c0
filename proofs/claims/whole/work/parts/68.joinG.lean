/-! turns in a row -/
noncomputable def zj_gr (τ : zx_τ) (cr lf : Int) (lim : Nat) : Nat → zj_T → zj_T
  | 0, T => T
  | i + 1, T => if zt_fw T.1 31 1 = 0 then T else zj_gr τ cr lf lim i (zj_st τ cr lf lim T (zt_fw T.1 31 1))
noncomputable def zj_gc (τ : zx_τ) (cr lf : Int) (lim : Nat) : Nat → zj_T → Int
  | 0, _ => 0
  | i + 1, T => if zt_fw T.1 31 1 = 0 then 0 else 1 + zj_gc τ cr lf lim i (zj_st τ cr lf lim T (zt_fw T.1 31 1))
theorem zj_gr_0 {τ : zx_τ} {cr lf : Int} {lim : Nat} {T : zj_T} (h : zt_fw T.1 31 1 = 0) : ∀ i, zj_gr τ cr lf lim i T = T ∧ zj_gc τ cr lf lim i T = 0
  | 0 => ⟨rfl, rfl⟩
  | i + 1 => by
    unfold zj_gr zj_gc
    rw [if_pos h, if_pos h]
    exact ⟨rfl, rfl⟩
theorem zj_gr_s {τ : zx_τ} {cr lf : Int} {lim : Nat} {T : zj_T} (h : zt_fw T.1 31 1 ≠ 0) (i : Nat) : zj_gr τ cr lf lim (i + 1) T = zj_gr τ cr lf lim i (zj_st τ cr lf lim T (zt_fw T.1 31 1)) ∧ zj_gc τ cr lf lim (i + 1) T = 1 + zj_gc τ cr lf lim i (zj_st τ cr lf lim T (zt_fw T.1 31 1)) := by
  constructor
  · rw [zj_gr, if_neg h]
  · rw [zj_gc, if_neg h]
theorem zj_gc_b {τ : zx_τ} {cr lf : Int} {lim : Nat} : ∀ (i : Nat) (T : zj_T), 0 ≤ zj_gc τ cr lf lim i T ∧ zj_gc τ cr lf lim i T ≤ i
  | 0, _ => ⟨Int.le_refl 0, Int.le_refl 0⟩
  | i + 1, T => by
    by_cases h : zt_fw T.1 31 1 = 0
    · rw [(zj_gr_0 h (i + 1)).2]; omega
    · rw [(zj_gr_s h i).2]
      have := zj_gc_b (τ := τ) (cr := cr) (lf := lf) (lim := lim) i (zj_st τ cr lf lim T (zt_fw T.1 31 1))
      omega
/-- what a search needs of a table -/
def zj_ok (τ : zx_τ) : Prop := (∀ s f0 t0, f0 < 3 → ∃ L, zy_Ls τ s f0 t0 3 L) ∧ ∀ p f t, f < 3 → zx_cut τ p f t → -2147483648 ≤ t ∧ t < 2147483648
theorem zj_ok_r {V : zg_V} {n : Nat} (hT : zr_T V n) : zj_ok (zr_τ V n) := ⟨fun s f0 t0 _ => zy_Ls_ex hT s f0 t0 3, fun _ _ _ hf h => zr_cut_rng hT hf h⟩
section ZJ8
variable {V W : zg_V} {sh n lim m : Nat} {T : zj_T} {cr lf : Int}
/-- grow -/
theorem zj_grow {V1 V2 : zg_V} {T' : zj_T} (h : zj_J V sh n T cr lim lf m) (hC : zj_C V1 n T' cr) (hI : zj_I T' n lim) (h1 : ∀ b, b < 40 ∨ b = 200 ∨ b = 202 ∨ b = 203 ∨ 214 ≤ b → V1 b = V b) (h0 : zt_fw T.1 31 1 = 0 → V1 = V ∧ T' = T) (hR : zj_R V2 n T' cr) (hff : zr_ff V1 V2) (hon : zv_on zr_tS V1 V2) : zj_A V2 sh (m + 1) := by
  have h16 := zj_16 h
  obtain ⟨a, b, c, d, e, f, g, o⟩ := h
  have o1 : ∀ b, b < 223 → V2 b = V1 b := fun b hb => hon b (by unfold zr_tS; omega)
  have o2 : ∀ b, 224 ≤ b → b ≤ 227 → V2 b = V1 b := fun b b1 b2 => hon b (by unfold zr_tS; omega)
  have o3 : ∀ j, j < 15 → V2 223 j = V 223 j := fun j hj => by rw [hff j (by omega), h1 223 (by omega)]
  refine ⟨n, T', cr, lim, lf, zj_C_fr (fun b hb => o1 b (by omega)) hC, hR, hI, ?_, ?_, ?_, ?_, fun r c hr hc => ?_⟩
  · unfold zj_P at d ⊢
    rw [o1 19 (by decide), o1 20 (by decide), o2 225 (by decide) (by decide), o2 226 (by decide) (by decide), o2 224 (by decide) (by decide), h1 19 (by omega), h1 20 (by omega), h1 225 (by omega), h1 226 (by omega), h1 224 (by omega)]
    exact ⟨d.1, d.2.1, d.2.2.1, fun r f hr hf => by rw [o1 (3 + r) (by omega), h1 (3 + r) (by omega)]; exact d.2.2.2 r f hr hf⟩
  · unfold zj_S at e ⊢
    rw [o1 203 (by decide), o1 217 (by decide), h1 203 (by omega), h1 217 (by omega)]
    exact e
  · by_cases q : zt_fw T.1 31 1 = 0
    · obtain ⟨rfl, rfl⟩ := h0 q
      exact zj_W_fr (o1 201 (by decide)) (fun k hk => o1 _ (by omega)) (o1 203 (by decide)) o3 h16 f
    · rcases f with ⟨f1, f2⟩ | ⟨f1, f2, f3, f4, f5, f6⟩
      · exact Or.inl ⟨f1, by rw [o3 12 (by decide)]; exact f2⟩
      · rcases zt_fw_w (f := T.1) 31 1 with z | ⟨z1, z2, z3⟩
        · exact absurd z q
        · exact absurd z3 (f5 _ z1 z2)
  · unfold zj_K at g ⊢
    rw [o1 0 (by decide), h1 0 (by omega), o3 5 (by decide), o3 6 (by decide), o3 7 (by decide)]
    exact g
  · rw [o1 (23 + r) (by omega), h1 (23 + r) (by omega), o2 227 (by decide) (by decide), h1 227 (by omega)]
    have := o r c hr hc
    exact ⟨this.1, this.2.1, by omega⟩
/-- cut -/
theorem zj_cut {V1 : zg_V} {sh1 : Nat} {p q : Int} (h : zj_J V sh n T cr lim lf m) (hw : zt_fw T.1 31 1 = 0) (hp : 0 ≤ p ∧ p ≤ 1000) (hq : 0 ≤ q ∧ q ≤ 1000)
    (h1 : (q = 0 ∧ sh1 = 200 ∧ V1 = V) ∨ (0 < q ∧ sh1 = 202 ∧ zv_on (fun a => a = 219 ∨ a = 203) V V1 ∧ zt_kd (V1 203) ∧ ∀ k, 1 ≤ k → k < 32 → V1 203 k = zc_sh (zt_er V) (zt_sp V) (V 201) p q k)) : zj_J (zr_cv V1 p q) sh1 n T cr lim lf m ∧ zt_lv (V1 (sh1 + 1)) 31 1 = zs_sum (zr_cn (zr_cv V1 p q) n T.2.1) 31 := by
  have h16 := zj_16 h
  have hJ := h
  obtain ⟨a, b, c, d, e, f, g, o⟩ := h
  have v1 : ∀ b, b ≠ 219 → b ≠ 203 → V1 b = V b := by
    rcases h1 with ⟨-, -, rfl⟩ | ⟨-, -, q, -⟩
    · exact fun b _ _ => rfl
    · exact fun b b1 b2 => q b (by omega)
  have cv0 : ∀ b, b ≠ 223 → zr_cv V1 p q b = V1 b := fun b hb => by unfold zr_cv; rw [zg_u_out _ _ _ _ hb, zg_u_out _ _ _ _ hb, zg_u_out _ _ _ _ hb]
  have cvf : ∀ j, j ≠ 12 → j ≠ 13 → j ≠ 14 → zr_cv V1 p q 223 j = V 223 j := fun j j1 j2 j3 => by unfold zr_cv; rw [zg_u_off _ _ _ _ j3, zg_u_off _ _ _ _ j2, zg_u_off _ _ _ _ j1, v1 223 (by decide) (by decide)]
  have cv12 : zr_cv V1 p q 223 12 = if 0 < q then 1 else 0 := by unfold zr_cv; rw [zg_u_off _ _ _ _ (by decide), zg_u_off _ _ _ _ (by decide), zg_u_in]
  have cv13 : zr_cv V1 p q 223 13 = p := by unfold zr_cv; rw [zg_u_off _ _ _ _ (by decide), zg_u_in]
  have cv14 : zr_cv V1 p q 223 14 = q := by unfold zr_cv; rw [zg_u_in]
  have oo : ∀ b, b ≠ 219 → b ≠ 203 → b ≠ 223 → zr_cv V1 p q b = V b := fun b b1 b2 b3 => by rw [cv0 b b3, v1 b b1 b2]
  have hk203 : zt_kd (V1 203) := by
    rcases h1 with ⟨-, -, rfl⟩ | ⟨-, -, -, q, -⟩
    · exact e.1
    · exact q
  have hJ2 : zj_J (zr_cv V1 p q) sh1 n T cr lim lf m := by
    refine ⟨zj_C_fr (fun b hb => oo b (by omega) (by omega) (by omega)) a, zj_R_fr (fun b b1 b2 _ => oo b (by omega) (by omega) (by omega)) (cvf 0 (by decide) (by decide) (by decide)) ?_ b, c, ?_, ?_, ?_, ?_, fun r c hr hc => ?_⟩
    · unfold zr_sc
      rw [cvf 18 (by decide) (by decide) (by decide), cvf 24 (by decide) (by decide) (by decide), cvf 25 (by decide) (by decide) (by decide)]
      exact b.2.2.2
    · unfold zj_P at d ⊢
      rw [oo 19 (by decide) (by decide) (by decide), oo 20 (by decide) (by decide) (by decide), oo 225 (by decide) (by decide) (by decide), oo 226 (by decide) (by decide) (by decide), oo 224 (by decide) (by decide) (by decide)]
      exact ⟨d.1, d.2.1, d.2.2.1, fun r f hr hf => by rw [oo (3 + r) (by omega) (by omega) (by omega)]; exact d.2.2.2 r f hr hf⟩
    · unfold zj_S at e ⊢
      rw [cv0 203 (by decide), oo 217 (by decide) (by decide) (by decide)]
      exact ⟨hk203, e.2⟩
    · rcases h1 with ⟨q0, s1, e1⟩ | ⟨q0, s1, -, -, q5⟩
      · exact Or.inl ⟨s1, by rw [cv12, if_neg (by omega)]⟩
      · refine Or.inr ⟨s1, by rw [cv12, if_pos q0], by rw [cv13]; exact hp, by rw [cv14]; exact hq, fun k k1 k2 z => ?_, fun k k1 k2 => ?_⟩
        · exact zt_fw_0 (Nat.le_refl 1) hw k k1 (by omega) z
        · rw [cv0 203 (by decide), q5 k k1 k2, cv13, cv14]
          refine zc_sh_c (fun j j1 j2 => ⟨?_, ?_, ?_⟩) (fun j _ _ => by rw [oo 201 (by decide) (by decide) (by decide)]) _ _ k k1 k2
          · show V (40 + 5 * j) 2 = zr_cv V1 p q (40 + 5 * j) 2
            rw [oo (40 + 5 * j) (by omega) (by omega) (by omega)]
          · show decide (V 201 j = 2) = decide (zr_cv V1 p q 201 j = 2)
            rw [oo 201 (by decide) (by decide) (by decide)]
          · intro q
            exact h16 j j2 (of_decide_eq_true q)
    · unfold zj_K at g ⊢
      rw [oo 0 (by decide) (by decide) (by decide), cvf 5 (by decide) (by decide) (by decide), cvf 6 (by decide) (by decide) (by decide), cvf 7 (by decide) (by decide) (by decide)]
      exact g
    · rw [oo (23 + r) (by omega) (by omega) (by omega), oo 227 (by decide) (by decide) (by decide)]
      exact o r c hr hc
  refine ⟨hJ2, ?_⟩
  rw [zt_lv_sum]
  refine zs_sum_congr (fun i hi => ?_)
  unfold zr_cn
  rw [← zj_kv hJ2 ((i : Int) + 1)]
  unfold zt_at
  have hs1 : sh1 + 1 ≠ 223 := by rcases h1 with ⟨-, s1, -⟩ | ⟨-, s1, -⟩ <;> omega
  rw [if_pos (show 1 ≤ (i : Int) + 1 ∧ (i : Int) + 1 < 32 by omega), cv0 (sh1 + 1) hs1, show ((i : Int) + 1).toNat = 1 + i by omega]
end ZJ8
/-! the way down -/
theorem zr_rc_45 {kv : Nat → Int} {gl : Nat → Bool} (h : ∀ m, kv m = 2 → m < 16) : ∀ (f m : Nat), 16 ≤ m * 2 ^ f → zr_rc kv gl (f + 1) m = zr_rc kv gl f m
  | 0, m, hm => by
    rw [zr_rc_s]
    rw [if_neg (fun q => by have := h m q; omega)]
    rfl
  | f + 1, m, hm => by
    rw [zr_rc_s, zr_rc_s kv gl f m]
    by_cases q : kv m = 2
    · rw [if_pos q, if_pos q]
      refine zr_rc_45 h f _ ?_
      have e : m * 2 ^ (f + 1) = (2 * m) * 2 ^ f := by rw [Nat.pow_succ, Nat.mul_comm 2 m, Nat.mul_assoc, Nat.mul_comm (2 ^ f) 2]
      have : (2 * m) * 2 ^ f ≤ (2 * m + (if gl m then 0 else 1)) * 2 ^ f := Nat.mul_le_mul_right _ (by omega)
      omega
    · rw [if_neg q, if_neg q]
theorem zr_rc_c {kv kv' : Nat → Int} {gl gl' : Nat → Bool} (h1 : ∀ m, kv m = kv' m) (h2 : ∀ m, kv m = 2 → gl m = gl' m) : ∀ (f m : Nat), zr_rc kv gl f m = zr_rc kv' gl' f m
  | 0, _ => rfl
  | f + 1, m => by
    rw [zr_rc_s, zr_rc_s]
    by_cases q : kv m = 2
    · rw [if_pos q, if_pos (show kv' m = 2 by rw [← h1]; exact q), h2 m q]
      exact zr_rc_c h1 h2 f _
    · rw [if_neg q, if_neg (show ¬ kv' m = 2 by rw [← h1]; exact q)]
theorem zr_rc_p {kv : Nat → Int} {gl : Nat → Bool} {D : Nat → Prop} (h : ∀ m, D m → kv m = 2 → D (2 * m) ∧ D (2 * m + 1)) : ∀ (f m : Nat), D m → D (zr_rc kv gl f m)
  | 0, _, hm => hm
  | f + 1, m, hm => by
    rw [zr_rc_s]
    by_cases q : kv m = 2
    · rw [if_pos q]
      refine zr_rc_p h f _ ?_
      have := h m hm q
      split
      · exact this.1
      · exact this.2
    · rw [if_neg q]; exact hm
/-- the least class of the most votes -/
theorem zt_ch_ci (v : Nat → Int) : ∀ c, (0 < v (zr_ci v c) → zt_ch v (c + 1) = ((zr_ci v c : Int), v (zr_ci v c))) ∧ (¬ 0 < v (zr_ci v c) → zt_ch v (c + 1) = (-1, 0))
  | 0 => by
    have e : zr_ci v 0 = 0 := rfl
    rw [e]
    have e2 : zt_ch v 1 = if (0 : Int) < v 0 then (((0 : Nat) : Int), v 0) else (-1, 0) := rfl
    rw [e2]
    exact ⟨fun h => if_pos h, fun h => if_neg h⟩
  | c + 1 => by
    obtain ⟨h1, h2⟩ := zt_ch_ci v c
    rw [zr_ci_s, zt_ch_s v (c + 1)]
    by_cases q : 0 < v (zr_ci v c)
    · rw [h1 q]
      by_cases z : v (zr_ci v c) < v (c + 1)
      · rw [if_pos z]
        exact ⟨fun _ => by rw [if_pos z], fun h => absurd (show 0 < v (c + 1) by omega) h⟩
      · rw [if_neg z]
        exact ⟨fun _ => by rw [if_neg z], fun h => absurd q h⟩
    · rw [h2 q]
      by_cases z : v (zr_ci v c) < v (c + 1)
      · rw [if_pos z]
        refine ⟨fun h => by rw [if_pos h], fun h => by rw [if_neg h]⟩
      · rw [if_neg z]
        refine ⟨fun h => absurd h q, fun h => by rw [if_neg (show ¬ (0 : Int) < v (c + 1) by omega)]⟩
def zt_wc (V : zg_V) (r : Nat) : Int := if 0 ≤ (zt_ch (V (23 + r)) 4).1 ∧ (zt_ch (V (23 + r)) 4).1 ≠ V 19 r then 1 else 0
theorem zj_wrong {V : zg_V} {sh n lim m : Nat} {T : zj_T} {cr lf : Int} (h : zj_J V sh n T cr lim lf m) : zs_sum (zt_wc V) n = zs_sum (zr_wc V) n := by
  have hn := h.1.1.2.1
  refine zs_sum_congr (fun r hr => ?_)
  have hO := fun c (hc : c < 4) => (h.2.2.2.2.2.2.2 r c (by omega) hc).1
  have hci : zr_ci (V (23 + r)) 3 = zr_ci (fun c => V 227 (4 * r + c)) 3 := by
    show (if (V (23 + r)) (zr_ci (V (23 + r)) 2) < (V (23 + r)) 3 then 3 else zr_ci (V (23 + r)) 2) = _
    have c1 : zr_ci (V (23 + r)) 1 = zr_ci (fun c => V 227 (4 * r + c)) 1 := by
      show (if V (23 + r) 0 < V (23 + r) 1 then 1 else 0) = (if V 227 (4 * r + 0) < V 227 (4 * r + 1) then 1 else 0)
      rw [hO 0 (by omega), hO 1 (by omega)]
    have b1 := zr_ci_b (fun c => V 227 (4 * r + c)) 1
    have c2 : zr_ci (V (23 + r)) 2 = zr_ci (fun c => V 227 (4 * r + c)) 2 := by
      rw [zr_ci_s, zr_ci_s _ 1, c1, hO _ (by omega), hO 2 (by omega)]
    have b2 := zr_ci_b (fun c => V 227 (4 * r + c)) 2
    rw [c2, hO _ (by omega), hO 3 (by omega)]
    rfl
  have b3 := zr_ci_b (fun c => V 227 (4 * r + c)) 3
  obtain ⟨g1, g2⟩ := zt_ch_ci (V (23 + r)) 3
  rw [hci, hO _ (by omega)] at g1 g2
  unfold zt_wc zr_wc
  rw [h.2.2.2.1.1]
  by_cases q : 0 < V 227 (4 * r + zr_ci (fun c => V 227 (4 * r + c)) 3)
  · rw [g1 q]
    by_cases z : ((zr_ci (fun c => V 227 (4 * r + c)) 3 : Nat) : Int) ≠ V 225 r
    · rw [if_pos ⟨by omega, z⟩, if_pos ⟨q, z⟩]
    · rw [if_neg (fun y => z y.2), if_neg (fun y => z y.2)]
  · rw [g2 q, if_neg (fun y => by have := y.1; omega), if_neg (fun y => q y.1)]

