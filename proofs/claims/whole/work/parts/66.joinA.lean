/-! draws -/
theorem zs_inc (w : Nat → Int) (k : Nat) : ∀ n, zs_sum (zt_inc w k) n = zs_sum w n + (if k < n then 1 else 0)
  | 0 => by rw [if_neg (by omega)]; rfl
  | n + 1 => by
    rw [zs_sum_s, zs_sum_s, zs_inc w k n]
    unfold zt_inc
    by_cases h : n = k
    · subst h
      rw [if_pos rfl, if_neg (by omega), if_pos (by omega)]
      omega
    · rw [if_neg h]
      by_cases q : k < n
      · rw [if_pos q, if_pos (by omega)]; omega
      · rw [if_neg q, if_neg (by omega)]; omega
theorem zt_dr_b {n : Nat} (hn : 0 < n) : ∀ (i : Nat) (s : Int) (w : Nat → Int), (∀ r, 0 ≤ w r) → (∀ r, 0 ≤ zt_dr n i s w r) ∧ zs_sum (zt_dr n i s w) n = zs_sum w n + (i : Int) ∧ ∀ r, n ≤ r → zt_dr n i s w r = w r
  | 0, s, w, h => ⟨h, by show zs_sum w n = _ + ((0 : Nat) : Int); omega, fun r _ => rfl⟩
  | i + 1, s, w, h => by
    have hb := zt_in_b n 8 s 32 (by omega)
    have h1 := Int.emod_nonneg (zt_in n 8 s 32).2 (show (n : Int) ≠ 0 by omega)
    have h2 := Int.emod_lt_of_pos (zt_in n 8 s 32).2 (show (0 : Int) < n by omega)
    have hk : ((zt_in n 8 s 32).2 % (n : Int)).toNat < n := by omega
    obtain ⟨a, b, c⟩ := zt_dr_b hn i (zt_in n 8 s 32).1 (zt_inc w ((zt_in n 8 s 32).2 % (n : Int)).toNat) (fun r => by
      have := h r
      unfold zt_inc
      split <;> omega)
    refine ⟨a, ?_, fun r hr => ?_⟩
    · show zs_sum (zt_dr n i _ _) n = _
      rw [b, zs_inc, if_pos hk]
      omega
    · show zt_dr n i _ _ r = _
      rw [c r hr]
      unfold zt_inc
      rw [if_neg (by omega)]
theorem zs_sum_one {w : Nat → Int} {n r : Nat} (h : ∀ r, r < n → 0 ≤ w r) (hr : r < n) : w r ≤ zs_sum w n := by
  have h1 : zs_sum w (r + 1) ≤ zs_sum w n := zs_sum_mono (by omega) h
  have h2 : 0 ≤ zs_sum w r := zs_sum_nonneg (fun i hi => h i (by omega))
  rw [zs_sum_s] at h1
  omega
theorem zs_sum_z : ∀ n, zs_sum (fun _ => 0) n = 0
  | 0 => rfl
  | n + 1 => by rw [zs_sum_s, zs_sum_z n]; rfl
theorem zs_sum_1 : ∀ n : Nat, zs_sum (fun _ => 1) n = (n : Int)
  | 0 => rfl
  | n + 1 => by rw [zs_sum_s, zs_sum_1 n]; omega
theorem zt_dr_0 {n : Nat} (hn : 0 < n) (hn16 : n ≤ 16) (z : Int) : (∀ r, 0 ≤ zt_dr n n z (fun _ => 0) r ∧ zt_dr n n z (fun _ => 0) r ≤ 16) ∧ zs_sum (zt_dr n n z (fun _ => 0)) n ≤ 16 ∧ ∀ r, n ≤ r → zt_dr n n z (fun _ => 0) r = 0 := by
  obtain ⟨a, b, c⟩ := zt_dr_b hn n z (fun _ => 0) (fun r => Int.le_refl 0)
  rw [zs_sum_z] at b
  refine ⟨fun r => ⟨a r, ?_⟩, by omega, c⟩
  by_cases hr : r < n
  · have := zs_sum_one (w := zt_dr n n z (fun _ => 0)) (n := n) (r := r) (fun r _ => a r) hr
    omega
  · rw [c r (by omega)]; omega
/-! the tables of both sides behind each change -/
theorem zt_T_row {V : zg_V} {n : Nat} {w : Nat → Int} (hT : zt_T V n) (hw : ∀ r, 0 ≤ w r ∧ w r ≤ 16) (hs : zs_sum w n ≤ 16) : zt_T (zv_row V 20 w) n := by
  obtain ⟨h1, h2, h3, h4, h5, h6⟩ := hT
  refine ⟨by rw [zv_row_o _ _ _ (by decide)]; exact h1, h2, fun r f a b => by rw [zv_row_o _ _ _ (show 3 + r ≠ 20 by omega)]; exact h3 r f a b, fun r a => by rw [zv_row_o _ _ _ (by decide)]; exact h4 r a, fun r _ => by rw [zv_row_i]; exact hw r, by rw [zv_row_i]; exact hs⟩
theorem zt_add_at (V : zg_V) (n : Nat) (a b c d : Int) : zt_add V n a b c d 1 3 = (n : Int) + 1 ∧ (n < 16 → zt_add V n a b c d (3 + n) 0 = a ∧ zt_add V n a b c d (3 + n) 1 = b ∧ zt_add V n a b c d (3 + n) 2 = c) ∧ (n < 16 → zt_add V n a b c d 19 n = d) := by
  refine ⟨zg_u_in _ _ _ _, fun hn => ⟨?_, ?_, ?_⟩, fun hn => ?_⟩
  · unfold zt_add
    rw [zg_u_out _ _ _ _ (by omega), zg_u_out _ _ _ _ (by omega), zg_u_off _ _ _ _ (by decide), zg_u_off _ _ _ _ (by decide), zg_u_in]
  · unfold zt_add
    rw [zg_u_out _ _ _ _ (by omega), zg_u_out _ _ _ _ (by omega), zg_u_off _ _ _ _ (by decide), zg_u_in]
  · unfold zt_add
    rw [zg_u_out _ _ _ _ (by omega), zg_u_out _ _ _ _ (by omega), zg_u_in]
  · unfold zt_add
    rw [zg_u_out _ _ _ _ (by omega), zg_u_in]
theorem zt_add_o (V : zg_V) (n : Nat) (a b c d : Int) {x : Nat} (h1 : x ≠ 1) (h2 : x ≠ 19) (h3 : x ≠ 3 + n) : zt_add V n a b c d x = V x := by
  unfold zt_add
  rw [zg_u_out _ _ _ _ h1, zg_u_out _ _ _ _ h2, zg_u_out _ _ _ _ h3, zg_u_out _ _ _ _ h3, zg_u_out _ _ _ _ h3]
theorem zt_add_19 (V : zg_V) {n : Nat} (hn : n < 16) (a b c d : Int) {j : Nat} (h : j ≠ n) : zt_add V n a b c d 19 j = V 19 j := by
  unfold zt_add
  rw [zg_u_out _ _ _ _ (by omega), zg_u_off _ _ _ _ h, zg_u_out _ _ _ _ (by omega), zg_u_out _ _ _ _ (by omega), zg_u_out _ _ _ _ (by omega)]
/-- the class's table behind addRow -/
def zt_ad (V : zg_V) (n : Nat) (a b c d : Int) : zg_V := zt_nv (zv_fill (zt_add V n a b c d) 20 (n + 1) 1) 16 0
theorem zt_nv_o (V : zg_V) {a : Nat} (h : a < 23 ∨ 38 < a) : zt_nv V 16 0 a = V a := by
  funext j
  unfold zt_nv
  rw [if_neg (by omega)]
theorem zt_nv_i (V : zg_V) {r c : Nat} (hr : r < 16) (hc : c < 4) : zt_nv V 16 0 (23 + r) c = 0 := by
  unfold zt_nv
  rw [if_pos (by omega)]
theorem zt_ad_T0 {V : zg_V} {n : Nat} (hT : zt_T V n) (hn : n < 16) {a b c d : Int} (ha : -2147483648 ≤ a ∧ a < 2147483648) (hb : -2147483648 ≤ b ∧ b < 2147483648) (hc : -2147483648 ≤ c ∧ c < 2147483648) (hd : 0 ≤ d ∧ d ≤ 3) (h0 : ∀ r, n ≤ r → V 20 r = 0) : zt_T (zv_fill (zt_add V n a b c d) 20 (n + 1) 1) (n + 1) := by
  obtain ⟨h1, h2, h3, h4, h5, h6⟩ := hT
  obtain ⟨a1, a2, a3⟩ := zt_add_at V n a b c d
  have o : ∀ x, x ≠ 20 → zv_fill (zt_add V n a b c d) 20 (n + 1) 1 x = zt_add V n a b c d x := fun x hx => zv_fill_o _ _ _ _ hx
  have w : ∀ r, zv_fill (zt_add V n a b c d) 20 (n + 1) 1 20 r = if r < n + 1 then 1 else 0 := fun r => by
    by_cases e : r < n + 1
    · simp [zv_fill, e]
    · have : zv_fill (zt_add V n a b c d) 20 (n + 1) 1 20 r = zt_add V n a b c d 20 r := by simp [zv_fill, e]
      rw [this, zt_add_o V n a b c d (by decide) (by decide) (by omega), h0 r (by omega), if_neg e]
  refine ⟨?_, by omega, fun r f hr hf => ?_, fun r hr => ?_, fun r hr => ?_, ?_⟩
  · rw [o 1 (by decide), a1]; omega
  · rw [o (3 + r) (by omega)]
    by_cases e : r = n
    · subst e
      obtain ⟨b1, b2, b3⟩ := a2 hn
      match f, hf with
      | 0, _ => rw [b1]; exact ha
      | 1, _ => rw [b2]; exact hb
      | 2, _ => rw [b3]; exact hc
    · rw [zt_add_o V n a b c d (by omega) (by omega) (by omega)]; exact h3 r f hr hf
  · rw [o 19 (by decide)]
    by_cases e : r = n
    · subst e; rw [a3 hn]; omega
    · rw [zt_add_19 V hn a b c d e]; exact h4 r hr
  · rw [w]; split <;> omega
  · rw [zs_sum_congr (g := fun _ => 1) (fun r hr => by rw [w, if_pos hr]), zs_sum_1]; omega
theorem zt_ad_T {V : zg_V} {n : Nat} (hT : zt_T V n) (hn : n < 16) {a b c d : Int} (ha : -2147483648 ≤ a ∧ a < 2147483648) (hb : -2147483648 ≤ b ∧ b < 2147483648) (hc : -2147483648 ≤ c ∧ c < 2147483648) (hd : 0 ≤ d ∧ d ≤ 3) (h0 : ∀ r, n ≤ r → V 20 r = 0) : zt_T (zt_ad V n a b c d) (n + 1) :=
  zt_T_fr (fun b hb => zt_nv_o _ (by omega)) (zt_ad_T0 hT hn ha hb hc hd h0)
/-! the tree anew -/
def zj_T0 (s : Nat) : zj_T := (fun k => if k = 1 then 0 else -1, fun k => if k = 1 then s else 0, fun _ => 0, fun _ => 0)
theorem zj_I_0 {s n lim : Nat} (hs : s < 2 ^ n) : zj_I (zj_T0 s) n lim := by
  have hp : 0 < 2 ^ n := Nat.two_pow_pos n
  have hp2 : 0 < 2 ^ lim := Nat.two_pow_pos lim
  have hp3 : 2 ^ (lim + 1) = 2 * 2 ^ lim := by rw [Nat.pow_succ]; omega
  refine ⟨fun k hk => ?_, rfl, fun k hk => ?_, fun k hk h => ?_, fun k hk h => ?_, fun k k1 k2 h => ?_, fun k k1 k2 h => ?_, by show (0 : Int) ≠ -1; decide⟩
  · show -1 ≤ (if k = 1 then (0 : Int) else -1) ∧ (if k = 1 then (0 : Int) else -1) ≤ 2
    split <;> omega
  · show (if k = 1 then s else 0) < 2 ^ n
    split <;> omega
  · have h : (if k = 1 then (0 : Int) else -1) = -1 := h
    show (if k = 1 then s else 0) = 0
    split at h <;> split <;> omega
  · have h : (if k = 1 then (0 : Int) else -1) = 2 := h
    split at h <;> omega
  · show (if 2 * k = 1 then (0 : Int) else -1) = -1 ∧ (if 2 * k + 1 = 1 then (0 : Int) else -1) = -1
    rw [if_neg (by omega), if_neg (by omega)]
    exact ⟨rfl, rfl⟩
  · have h : (if k = 1 then (0 : Int) else -1) ≠ -1 := h
    rw [hp3]
    split at h
    · omega
    · exact absurd rfl h
theorem zt_an_o (V : zg_V) (n : Nat) {b : Nat} (h1 : b ≠ 201) (h2 : b ≠ 45) : zt_an V n b = V b := by
  unfold zt_an
  rw [zg_u_out _ _ _ _ h1, zt_tk_o _ _ _ _ (by omega), zv_fill_o _ _ _ _ h1]
theorem zj_C_an {V : zg_V} {n : Nat} {cr : Int} (hT : zt_T V n) (hb : ∀ k, k < 32 → 0 ≤ V (40 + 5 * k) 2 ∧ V (40 + 5 * k) 2 ≤ 16) : zj_C (zt_an V n) n (zj_T0 (zt_pos (V 20) n)) cr := by
  have o : ∀ b, b ≠ 201 → b ≠ 45 → zt_an V n b = V b := fun b h1 h2 => zt_an_o V n h1 h2
  have e1 : zt_an V n (40 + 5 * 1) = zt_tk (zv_fill V 201 32 (-1)) (40 + 5 * 1) (zt_pos (V 20) n) n (40 + 5 * 1) := by
    unfold zt_an
    rw [zg_u_out _ _ _ _ (by decide)]
  have n1 := zt_tk_nk (zv_fill V 201 32 (-1)) (40 + 5 * 1) (zt_pos (V 20) n) n
  unfold zt_nk at n1
  rw [← e1, zv_fill_o _ _ _ _ (show 19 ≠ 201 by decide), zv_fill_o _ _ _ _ (show 20 ≠ 201 by decide)] at n1
  refine ⟨zt_T_fr (fun b hb => o b (by omega) (by omega)) hT, fun k hk => ?_, fun k hk => ?_, fun k k1 k2 h => ?_, fun k k1 k2 h => ?_⟩
  · show zt_an V n 201 k = if k = 1 then 0 else -1
    unfold zt_an
    by_cases e : k = 1
    · subst e; rw [zg_u_in, if_pos rfl]
    · rw [zg_u_off _ _ _ _ e, zt_tk_o _ _ _ _ (by decide), if_neg e]
      simp [zv_fill, hk]
  · by_cases e : k = 1
    · subst e
      rw [n1.2.2]
      exact zt_st_b hT _
    · rw [o (40 + 5 * k) (by omega) (by omega)]; exact hb k hk
  · have h : (if k = 1 then (0 : Int) else -1) ≠ -1 := h
    by_cases e : k = 1
    · subst e
      show zt_nk (zt_an V n) (zt_an V n) (40 + 5 * 1) (zt_pos (V 20) n) n
      unfold zt_nk
      rw [o 19 (by decide) (by decide), o 20 (by decide) (by decide)]
      exact n1
    · rw [if_neg e] at h
      exact absurd rfl h
  · have h : (if k = 1 then (0 : Int) else -1) = 2 := h
    split at h <;> omega
theorem zj_R_an {V V' : zg_V} {n : Nat} {cr : Int} (hT : zr_T V n) (hs : zr_sc V) (h : zr_an V V' n) : zj_R V' n (zj_T0 (zt_pos (V 226) n)) cr := by
  obtain ⟨h1, h2, h3, h4, h5⟩ := h
  refine ⟨zr_T_fr (fun b b1 b2 => h1 b (by omega)) (h2 0 (by decide)) hT, fun k hk => ⟨?_, ?_⟩, fun k hk q => ?_, ?_⟩
  · rw [h4 k hk]
    show _ = (if k = 1 then (0 : Int) else -1) + 1
    split <;> rfl
  · rw [h5 k hk]
    show _ = ((if k = 1 then zt_pos (V 226) n else 0 : Nat) : Int)
    split <;> rfl
  · have q : (if k = 1 then (0 : Int) else -1) = 2 := q
    split at q <;> omega
  · unfold zr_sc
    rw [h2 18 (by decide), h2 24 (by decide), h2 25 (by decide)]
    exact hs
/-- both sides anew -/
theorem zj_J_new {V U W : zg_V} {n lim m : Nat} {cr lf : Int} (hV : ∀ b, b < 223 → V b = zt_an U n b) (hT : zt_T U n) (hb : ∀ k, k < 32 → 0 ≤ U (40 + 5 * k) 2 ∧ U (40 + 5 * k) 2 ≤ 16) (hS : zj_S U) (hW : zr_an W V n) (hTr : zr_T W n) (hs : zr_sc W)
    (p1 : U 19 = W 225) (p2 : U 20 = W 226) (p3 : ∀ r, n ≤ r → U 20 r = 0) (p4 : ∀ r f, r < 16 → f < 3 → U (3 + r) f = W 224 (3 * r + f)) (k1 : U 0 10 = cr ∧ U 0 11 = (lim : Int) ∧ U 0 12 = lf) (k2 : W 223 5 = cr ∧ W 223 6 = (lim : Int) ∧ W 223 7 = lf) (k3 : (0 ≤ cr ∧ cr ≤ 2) ∧ lim ≤ 4 ∧ (1 ≤ lf ∧ lf ≤ 8))
    (o1 : ∀ r c, r < 16 → c < 4 → U (23 + r) c = W 227 (4 * r + c) ∧ 0 ≤ U (23 + r) c ∧ U (23 + r) c ≤ (m : Int)) : zj_J V 200 n (zj_T0 (zt_pos (U 20) n)) cr lim lf m := by
  have oV : ∀ b, b < 223 → b ≠ 201 → b ≠ 45 → V b = U b := fun b h1 h2 h3 => by rw [hV b h1]; exact zt_an_o U n h2 h3
  have oR : ∀ b, 224 ≤ b → b < 228 → V b = W b := fun b h1 h2 => hW.1 b (by omega)
  have oF : ∀ j, j ≠ 12 → V 223 j = W 223 j := hW.2.1
  refine ⟨zj_C_fr (fun b hb => hV b (by omega)) (zj_C_an hT hb), by rw [p2]; exact zj_R_an hTr hs hW, zj_I_0 (zs_mk_lt _ _), ⟨?_, ?_, ?_, ?_⟩, ?_, Or.inl ⟨rfl, hW.2.2.1⟩, ⟨?_, ?_, k3⟩, fun r c hr hc => ?_⟩
  · rw [oV 19 (by decide) (by decide) (by decide), oR 225 (by decide) (by decide)]; exact p1
  · rw [oV 20 (by decide) (by decide) (by decide), oR 226 (by decide) (by decide)]; exact p2
  · rw [oV 20 (by decide) (by decide) (by decide)]; exact p3
  · intro r f hr hf
    rw [oV (3 + r) (by omega) (by omega) (by omega), oR 224 (by decide) (by decide)]; exact p4 r f hr hf
  · unfold zj_S
    rw [oV 203 (by decide) (by decide) (by decide), oV 217 (by decide) (by decide) (by decide)]; exact hS
  · rw [oV 0 (by decide) (by decide) (by decide)]; exact k1
  · rw [oF 5 (by decide), oF 6 (by decide), oF 7 (by decide)]; exact k2
  · rw [oV (23 + r) (by omega) (by omega) (by omega), oR 227 (by decide) (by decide)]; exact o1 r c hr hc

