/-! Cutter.findWeakest -/
noncomputable def zc_l (rk : Nat → Int) (k : Nat) : Int := if _h : 1 ≤ k ∧ k < 32 ∧ rk k = 2 then zc_l rk (2 * k) + zc_l rk (2 * k + 1) else 1
termination_by 32 - k
noncomputable def zc_s (e rk : Nat → Int) (k : Nat) : Int := if _h : 1 ≤ k ∧ k < 32 ∧ rk k = 2 then zc_s e rk (2 * k) + zc_s e rk (2 * k + 1) else e k
termination_by 32 - k
theorem zc_l_k {rk : Nat → Int} {k : Nat} (h1 : 1 ≤ k) (h2 : k < 32) (h : rk k = 2) : zc_l rk k = zc_l rk (2 * k) + zc_l rk (2 * k + 1) := by rw [zc_l, dif_pos ⟨h1, h2, h⟩]
theorem zc_l_n {rk : Nat → Int} {k : Nat} (h : ¬ rk k = 2) : zc_l rk k = 1 := by rw [zc_l, dif_neg (fun q => h q.2.2)]
theorem zc_s_k {e rk : Nat → Int} {k : Nat} (h1 : 1 ≤ k) (h2 : k < 32) (h : rk k = 2) : zc_s e rk k = zc_s e rk (2 * k) + zc_s e rk (2 * k + 1) := by rw [zc_s, dif_pos ⟨h1, h2, h⟩]
theorem zc_s_n {e rk : Nat → Int} {k : Nat} (h : ¬ rk k = 2) : zc_s e rk k = e k := by rw [zc_s, dif_neg (fun q => h q.2.2)]
theorem zc_l_b {rk : Nat → Int} (h16 : ∀ k, k < 32 → rk k = 2 → k < 16) : (∀ k, 16 ≤ k → k < 32 → zc_l rk k = 1) ∧ (∀ k, 8 ≤ k → k < 32 → 1 ≤ zc_l rk k ∧ zc_l rk k ≤ 2) ∧ (∀ k, 4 ≤ k → k < 32 → 1 ≤ zc_l rk k ∧ zc_l rk k ≤ 4) ∧ (∀ k, 2 ≤ k → k < 32 → 1 ≤ zc_l rk k ∧ zc_l rk k ≤ 8) ∧ ∀ k, 1 ≤ k → k < 32 → 1 ≤ zc_l rk k ∧ zc_l rk k ≤ 16 := by
  have a1 : ∀ k, 16 ≤ k → k < 32 → zc_l rk k = 1 := fun k h1 h2 => zc_l_n (fun h => by have := h16 k h2 h; omega)
  have step : ∀ (lo : Nat) (b : Int), 1 ≤ lo → (∀ k, 2 * lo ≤ k → k < 32 → 1 ≤ zc_l rk k ∧ zc_l rk k ≤ b) → 1 ≤ b → ∀ k, lo ≤ k → k < 32 → 1 ≤ zc_l rk k ∧ zc_l rk k ≤ 2 * b := by
    intro lo b hlo h hb k h1 h2
    by_cases q : rk k = 2
    · have := h16 k h2 q
      have b1 := h (2 * k) (by omega) (by omega)
      have b2 := h (2 * k + 1) (by omega) (by omega)
      rw [zc_l_k (by omega) h2 q]
      omega
    · rw [zc_l_n q]; omega
  have a2 := step 8 1 (by decide) (fun k h1 h2 => by rw [a1 k h1 h2]; omega) (by decide)
  have a3 := step 4 2 (by decide) a2 (by decide)
  have a4 := step 2 4 (by decide) a3 (by decide)
  have a5 := step 1 8 (by decide) a4 (by decide)
  exact ⟨a1, a2, a3, a4, a5⟩
theorem zc_s_b {e rk : Nat → Int} (h16 : ∀ k, k < 32 → rk k = 2 → k < 16) (he : ∀ k, 1 ≤ k → k < 32 → 0 ≤ e k ∧ e k ≤ 16) : ∀ k, 1 ≤ k → k < 32 → 0 ≤ zc_s e rk k ∧ zc_s e rk k ≤ 256 := by
  have a1 : ∀ k, 16 ≤ k → k < 32 → 0 ≤ zc_s e rk k ∧ zc_s e rk k ≤ 16 := fun k h1 h2 => by rw [zc_s_n (fun h => by have := h16 k h2 h; omega)]; exact he k (by omega) h2
  have step : ∀ (lo : Nat) (b : Int), 1 ≤ lo → (∀ k, 2 * lo ≤ k → k < 32 → 0 ≤ zc_s e rk k ∧ zc_s e rk k ≤ b) → 16 ≤ b → ∀ k, lo ≤ k → k < 32 → 0 ≤ zc_s e rk k ∧ zc_s e rk k ≤ 2 * b := by
    intro lo b hlo h hb k h1 h2
    by_cases q : rk k = 2
    · have := h16 k h2 q
      have b1 := h (2 * k) (by omega) (by omega)
      have b2 := h (2 * k + 1) (by omega) (by omega)
      rw [zc_s_k (by omega) h2 q]
      omega
    · rw [zc_s_n q]; have := he k (by omega) h2; omega
  have a2 := step 8 16 (by decide) a1 (by decide)
  have a3 := step 4 32 (by decide) a2 (by decide)
  have a4 := step 2 64 (by decide) a3 (by decide)
  have a5 := step 1 128 (by decide) a4 (by decide)
  exact a5
/-- top and bottom of a node's price -/
noncomputable def zc_t (e rk : Nat → Int) (k : Nat) : Nat := (e k - zc_s e rk k).toNat
noncomputable def zc_b (rk : Nat → Int) (k : Nat) : Nat := (zc_l rk k - 1).toNat
/-- the least price among the split nodes from i on -/
def zc_wk (e rk : Nat → Int) (i : Nat) (β : Bool) (W : zg_V) : Prop :=
  (β = false ∧ ∀ k, i ≤ k → k < 32 → ¬ rk k = 2) ∨ (β = true ∧ ∃ k0, i ≤ k0 ∧ k0 < 32 ∧ rk k0 = 2 ∧ W 215 0 = ((zc_t e rk k0 / Nat.gcd (zc_t e rk k0) (zc_b rk k0) : Nat) : Int) ∧ W 215 1 = ((zc_b rk k0 / Nat.gcd (zc_t e rk k0) (zc_b rk k0) : Nat) : Int) ∧ ∀ k, i ≤ k → k < 32 → rk k = 2 → (zc_t e rk k0 : Int) * zc_b rk k ≤ (zc_t e rk k : Int) * zc_b rk k0)
theorem zx_tr2 {a b c d e f : Int} (hb : 0 < b) (hd : 0 < d) (hf : 0 < f) (h1 : a * d < c * b) (h2 : c * f ≤ e * d) : a * f < e * b := by
  have k1 : a * d * f < c * b * f := Int.mul_lt_mul_of_pos_right h1 hf
  have k2 : c * f * b ≤ e * d * b := Int.mul_le_mul_of_nonneg_right h2 (Int.le_of_lt hb)
  have k3 : c * b * f = c * f * b := Int.mul_right_comm c b f
  have k4 : a * f * d < e * b * d := by
    rw [Int.mul_right_comm a f d, Int.mul_right_comm e b d]
    omega
  exact Int.lt_of_mul_lt_mul_right k4 (Int.le_of_lt hd)
section ZT15
variable {Γ : zg_C} {V : zg_V} {sh : Nat}
theorem ct_weak (he : ∀ k, k < 32 → 0 ≤ V (40 + 5 * k) 2 ∧ V (40 + 5 * k) 2 ≤ 16) (hrk : zt_kd (V 217)) (h16 : ∀ k, k < 32 → V 217 k = 2 → k < 16) (hpos : ∀ k, 1 ≤ k → k < 32 → V 217 k = 2 → zc_s (zt_er V) (V 217) k < V (40 + 5 * k) 2) : zg_S Γ zm_Cutter_findWeakest 2 0 0 [zg_r Γ 214, zg_r Γ 39] zk_K 242 (zk_P sh) V (zq_r zk_K 242 (zk_P sh) (fun rr V' => zv_on (fun a => a = 215 ∨ a = 218 ∨ a = 220 ∨ a = 221) V V' ∧ ∃ β, rr = some (zg_i (zg_b β)) ∧ zc_wk (zt_er V) (V 217) 1 β V')) := by
  have hlb := (zc_l_b h16).2.2.2.2
  have hsb := zc_s_b (e := zt_er V) h16 (fun k _ h => he k h)
  have hl2 : ∀ k, 1 ≤ k → k < 32 → V 217 k = 2 → 2 ≤ zc_l (V 217) k := fun k h1 h2 h => by
    have := h16 k h2 h
    have b1 := hlb (2 * k) (by omega) (by omega)
    have b2 := hlb (2 * k + 1) (by omega) (by omega)
    rw [zc_l_k h1 h2 h]
    omega
  generalize hQ : zq_r zk_K 242 (zk_P sh) (fun rr V' => zv_on (fun a => a = 215 ∨ a = 218 ∨ a = 220 ∨ a = 221) V V' ∧ ∃ β, rr = some (zg_i (zg_b β)) ∧ zc_wk (zt_er V) (V 217) 1 β V') = Q
  refine zg_enter 2 (by decide) (Nat.le_of_ble_eq_true rfl) rfl ?_
  refine zg_iconst zd_Cutter_findWeakest_0 ?_
  refine zg_is2 zd_Cutter_findWeakest_1 (fun w h => by cases h <;> rfl) (by decide) ?_
  refine zg_bipush zd_Cutter_findWeakest_2 (by decide) ?_
  refine zg_is3 zd_Cutter_findWeakest_4 (fun w h => by cases h <;> rfl) (by decide) ?_
  have key : ∀ (k : Nat) (W : zg_V) (β : Bool) (hk : k ≤ 31) (hW : zv_on (fun a => a = 215 ∨ a = 218 ∨ a = 220 ∨ a = 221) V W) (hin : ∀ j, k < j → j < 32 → W 220 j = zc_l (V 217) j ∧ W 221 j = zc_s (zt_er V) (V 217) j) (hwk : zc_wk (zt_er V) (V 217) (k + 1) β W), zg_G Γ (fun _ => True) zm_Cutter_findWeakest (zg_rm 2 0 0) (zg_Ω Γ (Q) 0 0) 0 0 5 [some (zg_r Γ (214)), some (zg_r Γ (39)), some (zg_i (zg_b β)), some (zg_i ((k : Nat)))] [] zk_K 242 (zk_P sh) (W) := by
    intro k
    induction k with
    | zero =>
      intro W β hk hW hin hwk
      refine zg_il3 zd_Cutter_findWeakest_5 ?_
      refine zg_iconst zd_Cutter_findWeakest_6 ?_
      refine zg_icmp_lt (tgt := 168) zd_Cutter_findWeakest_7 (by decide) (by omega) (by omega) (fun b7 => ?_) (fun b7 => ?_)
      · refine zg_il2 zd_Cutter_findWeakest_168 ?_
        refine zg_zreturn zd_Cutter_findWeakest_169 rfl (zg_b01 _) ?_
        subst hQ; exact ⟨rfl, rfl, rfl, hW, β, rfl, hwk⟩
      · omega
    | succ k ih =>
      intro W β hk hW hin hwk
      generalize hm : k + 1 = m at *
      have hm1 : 1 ≤ m := by omega
      have hm2 : m < 32 := by omega
      have hkm := (zk_node m hm2).1
      have hpm := zp_nodes (sh := sh) hm2
      have hWm : W (40 + 5 * m) = V (40 + 5 * m) := hW _ (by omega)
      have hem := he m hm2
      have hW217 : W 217 = V 217 := hW 217 (by omega)
      generalize hW1 : zg_u (zg_u W 220 m 1) 221 m (V (40 + 5 * m) 2) = W1
      have hW1o : ∀ b, b ≠ 220 → b ≠ 221 → W1 b = W b := fun b q1 q2 => by rw [← hW1, zg_u_out _ _ _ _ q2, zg_u_out _ _ _ _ q1]
      have hW1a : ∀ j, j ≠ m → W1 220 j = W 220 j ∧ W1 221 j = W 221 j := fun j hj => by
        rw [← hW1, zg_u_out _ _ _ _ (by decide), zg_u_off _ _ _ _ hj, zg_u_off _ _ _ _ hj, zg_u_out _ _ _ _ (by decide)]
        exact ⟨rfl, rfl⟩
      have hW1m : W1 220 m = 1 ∧ W1 221 m = V (40 + 5 * m) 2 := by
        rw [← hW1, zg_u_in, zg_u_out _ _ _ _ (by decide), zg_u_in]
        exact ⟨rfl, rfl⟩
      have hat : zt_at (W1 (216 + 1)) (m : Int) = V 217 m := by
        show (if 1 ≤ (m : Int) ∧ (m : Int) < 32 then W1 217 (m : Int).toNat else -1) = _
        rw [if_pos (by omega), hW1o 217 (by decide) (by decide), hW217]
        congr 1
      have hkb := hrk m hm2
      -- the next node
      have fin : ∀ (W2 : zg_V) (β2 : Bool), zv_on (fun a => a = 215 ∨ a = 218 ∨ a = 220 ∨ a = 221) V W2 → (∀ j, j ≠ m → W2 220 j = W 220 j ∧ W2 221 j = W 221 j) → W2 220 m = zc_l (V 217) m → W2 221 m = zc_s (zt_er V) (V 217) m → zc_wk (zt_er V) (V 217) m β2 W2 → zg_G Γ (fun _ => True) zm_Cutter_findWeakest (zg_rm 2 0 0) (zg_Ω Γ (Q) 0 0) 0 0 162 [some (zg_r Γ (214)), some (zg_r Γ (39)), some (zg_i (zg_b β2)), some (zg_i ((m : Nat)))] [] zk_K 242 (zk_P sh) (W2) := by
        intro W2 β2 g0 g1 g2 g3 g4
        have ih := ih W2 β2 (by omega) g0 (fun j j1 j2 => by
          by_cases e : j = m
          · subst e; exact ⟨g2, g3⟩
          · rw [(g1 j e).1, (g1 j e).2]; exact hin j (by omega) j2) g4
        rw [show ((k : Nat) : Int) = (m : Int) + -1 by omega] at ih
        refine zg_inc3 zd_Cutter_findWeakest_162 (fun w h => by cases h <;> rfl) (by decide) ?_
        refine zg_goto (tgt := 5) zd_Cutter_findWeakest_165 (by decide) ?_
        exact ih
      have hnot : ¬ V 217 m = 2 → zg_G Γ (fun _ => True) zm_Cutter_findWeakest (zg_rm 2 0 0) (zg_Ω Γ (Q) 0 0) 0 0 162 [some (zg_r Γ (214)), some (zg_r Γ (39)), some (zg_i (zg_b β)), some (zg_i ((m : Nat)))] [] zk_K 242 (zk_P sh) (W1) := by
        intro hno
        refine fin W1 β (by rw [← hW1]; exact zv_on_u (zv_on_u hW (by decide)) (by decide)) hW1a (by rw [hW1m.1, zc_l_n hno]) (by rw [hW1m.2, zc_s_n hno]) ?_
        have h215 : W1 215 = W 215 := hW1o 215 (by decide) (by decide)
        unfold zc_wk
        rw [h215]
        rcases hwk with ⟨q1, q2⟩ | ⟨q1, k0, q2, q3, q4, q5, q6, q7⟩
        · refine Or.inl ⟨q1, fun j j1 j2 => ?_⟩
          by_cases e : j = m
          · subst e; exact hno
          · exact q2 j (by omega) j2
        · refine Or.inr ⟨q1, k0, by omega, q3, q4, q5, q6, fun j j1 j2 j3 => ?_⟩
          by_cases e : j = m
          · subst e; exact absurd j3 hno
          · exact q7 j (by omega) j2 j3
      -- behind the candidate
      have cand : V 217 m = 2 → ∀ W3 : zg_V, W3 = zf_set (zg_u (zg_u W1 220 m (zc_l (V 217) m)) 221 m (zc_s (zt_er V) (V 217) m)) 218 ((zc_t (zt_er V) (V 217) m / Nat.gcd (zc_t (zt_er V) (V 217) m) (zc_b (V 217) m) : Nat) : Int) ((zc_b (V 217) m / Nat.gcd (zc_t (zt_er V) (V 217) m) (zc_b (V 217) m) : Nat) : Int) → zg_G Γ (fun _ => True) zm_Cutter_findWeakest (zg_rm 2 0 0) (zg_Ω Γ (Q) 0 0) 0 0 131 [some (zg_r Γ (214)), some (zg_r Γ (39)), some (zg_i (zg_b β)), some (zg_i ((m : Nat)))] [] zk_K 242 (zk_P sh) (W3) := by
        intro hy W3 hW3
        have hp1 := hpos m hm1 hm2 hy
        have hs1 := hsb m hm1 hm2
        have hl1 := hl2 m hm1 hm2 hy
        have hl3 := hlb m hm1 hm2
        have hW3o : ∀ b, b ≠ 218 → b ≠ 220 → b ≠ 221 → W3 b = W b := fun b q1 q2 q3 => by
          rw [hW3]
          unfold zf_set
          rw [zg_u_out _ _ _ _ q1, zg_u_out _ _ _ _ q1, zg_u_out _ _ _ _ q3, zg_u_out _ _ _ _ q2, hW1o b q2 q3]
        have hW3V : zv_on (fun a => a = 215 ∨ a = 218 ∨ a = 220 ∨ a = 221) V W3 := fun b hb => by
          rw [hW3o b (by omega) (by omega) (by omega)]; exact hW b hb
        have hW3a : ∀ j, j ≠ m → W3 220 j = W 220 j ∧ W3 221 j = W 221 j := fun j hj => by
          rw [hW3]
          unfold zf_set
          rw [zg_u_out _ _ _ _ (by decide), zg_u_out _ _ _ _ (by decide), zg_u_out _ _ _ _ (by decide), zg_u_off _ _ _ _ hj, zg_u_out _ _ _ _ (by decide), zg_u_out _ _ _ _ (by decide), zg_u_off _ _ _ _ hj, zg_u_out _ _ _ _ (by decide)]
          exact hW1a j hj
        have hW3m : W3 220 m = zc_l (V 217) m ∧ W3 221 m = zc_s (zt_er V) (V 217) m := by
          rw [hW3]
          unfold zf_set
          rw [zg_u_out _ _ _ _ (by decide), zg_u_out _ _ _ _ (by decide), zg_u_out _ _ _ _ (by decide), zg_u_in, zg_u_out _ _ _ _ (by decide), zg_u_out _ _ _ _ (by decide), zg_u_in]
          exact ⟨rfl, rfl⟩
        have hW30 : W3 218 0 = ((zc_t (zt_er V) (V 217) m / Nat.gcd (zc_t (zt_er V) (V 217) m) (zc_b (V 217) m) : Nat) : Int) := by rw [hW3]; unfold zf_set; rw [zg_u_off _ _ _ _ (by decide), zg_u_in]
        have hW31 : W3 218 1 = ((zc_b (V 217) m / Nat.gcd (zc_t (zt_er V) (V 217) m) (zc_b (V 217) m) : Nat) : Int) := by rw [hW3]; unfold zf_set; rw [zg_u_in]
        have hW5 : W3 215 = W 215 := hW3o 215 (by decide) (by decide) (by decide)
        have htb : ∀ j, 1 ≤ j → j < 32 → V 217 j = 2 → zc_t (zt_er V) (V 217) j ≤ 16 ∧ 1 ≤ zc_t (zt_er V) (V 217) j ∧ zc_b (V 217) j ≤ 15 ∧ 1 ≤ zc_b (V 217) j := fun j j1 j2 j3 => by
          have a1 := hpos j j1 j2 j3
          have a2 := hsb j j1 j2
          have a3 := hl2 j j1 j2 j3
          have a4 := hlb j j1 j2
          have a5 := he j j2
          have a6 : zc_t (zt_er V) (V 217) j = (V (40 + 5 * j) 2 - zc_s (zt_er V) (V 217) j).toNat := rfl
          have a7 : zc_b (V 217) j = (zc_l (V 217) j - 1).toNat := rfl
          omega
        have hrb : ∀ j, 1 ≤ j → j < 32 → V 217 j = 2 → zc_t (zt_er V) (V 217) j / Nat.gcd (zc_t (zt_er V) (V 217) j) (zc_b (V 217) j) ≤ 16 ∧ zc_b (V 217) j / Nat.gcd (zc_t (zt_er V) (V 217) j) (zc_b (V 217) j) ≤ 15 := fun j j1 j2 j3 => by
          have a1 := htb j j1 j2 j3
          have a2 : zc_t (zt_er V) (V 217) j / Nat.gcd (zc_t (zt_er V) (V 217) j) (zc_b (V 217) j) ≤ zc_t (zt_er V) (V 217) j := Nat.div_le_self _ _
          have a3 : zc_b (V 217) j / Nat.gcd (zc_t (zt_er V) (V 217) j) (zc_b (V 217) j) ≤ zc_b (V 217) j := Nat.div_le_self _ _
          exact ⟨Nat.le_trans a2 a1.1, Nat.le_trans a3 a1.2.2.1⟩
        have hmb := hrb m hm1 hm2 hy
        have hmt := htb m hm1 hm2 hy
        have c0 : 0 ≤ W3 218 0 ∧ W3 218 0 ≤ 16 := by
          rw [hW30]
          generalize zc_t (zt_er V) (V 217) m / Nat.gcd (zc_t (zt_er V) (V 217) m) (zc_b (V 217) m) = z at hmb
          omega
        have c1 : 0 ≤ W3 218 1 ∧ W3 218 1 ≤ 15 := by
          rw [hW31]
          generalize zc_b (V 217) m / Nat.gcd (zc_t (zt_er V) (V 217) m) (zc_b (V 217) m) = z at hmb
          omega
        -- taken
        have take : (∀ k, m + 1 ≤ k → k < 32 → V 217 k = 2 → (zc_t (zt_er V) (V 217) m : Int) * zc_b (V 217) k ≤ (zc_t (zt_er V) (V 217) k : Int) * zc_b (V 217) m) → zg_G Γ (fun _ => True) zm_Cutter_findWeakest (zg_rm 2 0 0) (zg_Ω Γ (Q) 0 0) 0 0 162 [some (zg_r Γ (214)), some (zg_r Γ (39)), some (zg_i (1)), some (zg_i ((m : Nat)))] [] zk_K 242 (zk_P sh) (zf_set W3 215 (W3 218 0) (W3 218 1)) := by
          intro hall
          refine fin _ true (by unfold zf_set; exact zv_on_u (zv_on_u hW3V (Or.inl rfl)) (Or.inl rfl)) (fun j hj => ?_) ?_ ?_ (Or.inr ⟨rfl, m, Nat.le_refl m, hm2, hy, ?_, ?_, fun j j1 j2 j3 => ?_⟩)
          · unfold zf_set
            rw [zg_u_out _ _ _ _ (by decide), zg_u_out _ _ _ _ (by decide), zg_u_out _ _ _ _ (by decide), zg_u_out _ _ _ _ (by decide)]
            exact hW3a j hj
          · unfold zf_set
            rw [zg_u_out _ _ _ _ (by decide), zg_u_out _ _ _ _ (by decide)]
            exact hW3m.1
          · unfold zf_set
            rw [zg_u_out _ _ _ _ (by decide), zg_u_out _ _ _ _ (by decide)]
            exact hW3m.2
          · unfold zf_set
            rw [zg_u_off _ _ _ _ (by decide), zg_u_in, hW30]
          · unfold zf_set
            rw [zg_u_in, hW31]
          · by_cases e : j = m
            · subst e; exact Int.le_refl _
            · exact hall j (by omega) j2 j3
        have cp : (∀ k, m + 1 ≤ k → k < 32 → V 217 k = 2 → (zc_t (zt_er V) (V 217) m : Int) * zc_b (V 217) k ≤ (zc_t (zt_er V) (V 217) k : Int) * zc_b (V 217) m) → zg_G Γ (fun _ => True) zm_Cutter_findWeakest (zg_rm 2 0 0) (zg_Ω Γ (Q) 0 0) 0 0 149 [some (zg_r Γ (214)), some (zg_r Γ (39)), some (zg_i (zg_b β)), some (zg_i ((m : Nat)))] [] zk_K 242 (zk_P sh) (W3) := by
          intro hall
          refine zg_al0 zd_Cutter_findWeakest_149 ?_
          refine zg_getr zd_Cutter_findWeakest_150 zf_245 (by omega) (by first | assumption | rfl) rfl (by first | assumption | rfl) ?_
          refine zg_al0 zd_Cutter_findWeakest_153 ?_
          refine zg_getr zd_Cutter_findWeakest_154 zf_248 (by omega) (by first | assumption | rfl) rfl (by first | assumption | rfl) ?_
          refine zg_cVq1 zd_Cutter_findWeakest_157 zM_Fraction_copyFrom zw_609 zi_Fraction_copyFrom zs_Fraction_copyFrom (ct_fcopy (by decide) (by decide) rfl rfl) (by decide) (by decide) (by omega) (by first | assumption | rfl) (by decide) rfl (Nat.le_of_ble_eq_true rfl) ?_
          refine zg_iconst zd_Cutter_findWeakest_160 ?_
          refine zg_is2 zd_Cutter_findWeakest_161 (fun w h => by cases h <;> rfl) (by decide) ?_
          exact take hall
        rcases hwk with ⟨q1, q2⟩ | ⟨q1, k0, q2, q3, q4, q5, q6, q7⟩
        · subst q1
          refine zg_il2 zd_Cutter_findWeakest_131 ?_
          refine zg_if_eqB (tgt := 149) zd_Cutter_findWeakest_132 (by decide) (fun b132 => ?_) (fun b132 => ?_)
          · exact cp (fun j j1 j2 j3 => absurd j3 (q2 j j1 j2))
          · cases b132
        · subst q1
          have h0b := hrb k0 (by omega) q3 q4
          have h0t := htb k0 (by omega) q3 q4
          have d0 : 0 ≤ W3 215 0 ∧ W3 215 0 ≤ 16 := by
            rw [hW5, q5]
            generalize zc_t (zt_er V) (V 217) k0 / Nat.gcd (zc_t (zt_er V) (V 217) k0) (zc_b (V 217) k0) = z at h0b
            omega
          have d1 : 0 ≤ W3 215 1 ∧ W3 215 1 ≤ 15 := by
            rw [hW5, q6]
            generalize zc_b (V 217) k0 / Nat.gcd (zc_t (zt_er V) (V 217) k0) (zc_b (V 217) k0) = z at h0b
            omega
          have e1 := zx_mul_b d0 c1
          have e2 := zx_mul_b c0 d1
          have hcr : (W3 218 0 * W3 215 1 < W3 215 0 * W3 218 1) ↔ ((zc_t (zt_er V) (V 217) m : Int) * zc_b (V 217) k0 < (zc_t (zt_er V) (V 217) k0 : Int) * zc_b (V 217) m) := by
            rw [hW5, q5, q6, hW30, hW31]
            exact zx_cross (by omega) (by omega)
          refine zg_il2 zd_Cutter_findWeakest_131 ?_
          refine zg_if_eqB (tgt := 149) zd_Cutter_findWeakest_132 (by decide) (fun b132 => ?_) (fun b132 => ?_)
          · first
            | (cases b132; done)
            | (have hlt := hcr.mp (of_decide_eq_true b146)
               refine cp (fun j j1 j2 j3 => ?_)
               have h7 := q7 j j1 j2 j3
               have hj := htb j (by omega) j2 j3
               exact Int.le_of_lt (zx_tr2 (show (0 : Int) < (zc_b (V 217) m : Int) by omega) (show (0 : Int) < (zc_b (V 217) k0 : Int) by omega) (show (0 : Int) < (zc_b (V 217) j : Int) by omega) hlt h7))
          · refine zg_al0 zd_Cutter_findWeakest_135 ?_
            refine zg_getr zd_Cutter_findWeakest_136 zf_245 (by omega) (by first | assumption | rfl) rfl (by first | assumption | rfl) ?_
            refine zg_al0 zd_Cutter_findWeakest_139 ?_
            refine zg_getr zd_Cutter_findWeakest_140 zf_248 (by omega) (by first | assumption | rfl) rfl (by first | assumption | rfl) ?_
            refine zg_cVp1 zd_Cutter_findWeakest_143 zM_Fraction_isMoreThan zw_608 zi_Fraction_isMoreThan zs_Fraction_isMoreThan (ct_fmore (by decide) (by decide) rfl rfl (by omega) (by omega)) (by decide) (by decide) (by omega) (by first | assumption | rfl) (by decide) rfl (Nat.le_of_ble_eq_true rfl) ?_
            refine zg_if_eqB (tgt := 162) zd_Cutter_findWeakest_146 (by decide) (fun b146 => ?_) (fun b146 => ?_)
            · have hnl : ¬ _ := fun h => of_decide_eq_false b146 (hcr.mpr h)
              refine fin W3 true hW3V hW3a hW3m.1 hW3m.2 (Or.inr ⟨rfl, k0, by omega, q3, q4, by rw [hW5]; exact q5, by rw [hW5]; exact q6, fun j j1 j2 j3 => ?_⟩)
              by_cases e : j = m
              · subst e; omega
              · exact q7 j (by omega) j2 j3
            · first
              | (cases b132; done)
              | (have hlt := hcr.mp (of_decide_eq_true b146)
                 refine cp (fun j j1 j2 j3 => ?_)
                 have h7 := q7 j j1 j2 j3
                 have hj := htb j (by omega) j2 j3
                 exact Int.le_of_lt (zx_tr2 (show (0 : Int) < (zc_b (V 217) m : Int) by omega) (show (0 : Int) < (zc_b (V 217) k0 : Int) by omega) (show (0 : Int) < (zc_b (V 217) j : Int) by omega) hlt h7))
      refine zg_il3 zd_Cutter_findWeakest_5 ?_
      refine zg_iconst zd_Cutter_findWeakest_6 ?_
      refine zg_icmp_lt (tgt := 168) zd_Cutter_findWeakest_7 (by decide) (by omega) (by omega) (fun b7 => ?_) (fun b7 => ?_)
      · omega
      · refine zg_al0 zd_Cutter_findWeakest_10 ?_
        refine zg_getr zd_Cutter_findWeakest_11 zf_250 (by omega) (by first | assumption | rfl) rfl (by first | assumption | rfl) ?_
        refine zg_il3 zd_Cutter_findWeakest_14 ?_
        refine zg_iconst zd_Cutter_findWeakest_15 ?_
        refine zg_iast zd_Cutter_findWeakest_16 (by omega) (by first | assumption | rfl) rfl (by omega) (by decide) ?_
        refine zg_al0 zd_Cutter_findWeakest_17 ?_
        refine zg_getr zd_Cutter_findWeakest_18 zf_251 (by omega) (by first | assumption | rfl) rfl (by first | assumption | rfl) ?_
        refine zg_il3 zd_Cutter_findWeakest_21 ?_
        refine zg_al1 zd_Cutter_findWeakest_22 ?_
        refine zg_il3 zd_Cutter_findWeakest_23 ?_
        refine zg_aald zd_Cutter_findWeakest_24 (by omega) (by first | assumption | rfl) rfl rfl rfl (by omega) (by decide) (by first | assumption | rfl) ?_
        refine zg_geti zd_Cutter_findWeakest_25 zf_123 (by omega) (by first | assumption | rfl) rfl ?_
        rw [zg_u_out _ _ _ _ (show 40 + 5 * m ≠ 220 by omega), hWm]
        refine zg_iast zd_Cutter_findWeakest_28 (by omega) (by first | assumption | rfl) rfl (by omega) (by decide) ?_
        rw [hW1]
        refine zg_al0 zd_Cutter_findWeakest_29 ?_
        refine zg_getr zd_Cutter_findWeakest_30 zf_247 (by omega) (by first | assumption | rfl) rfl (by first | assumption | rfl) ?_
        refine zg_il3 zd_Cutter_findWeakest_33 ?_
        refine zg_cVp1 zd_Cutter_findWeakest_34 zM_Shape_at zw_585 zi_Shape_at zs_Shape_at (ct_hat (Or.inr (Or.inr rfl)) (by omega)) (by decide) (by decide) (by omega) (by first | assumption | rfl) (by decide) rfl (Nat.le_of_ble_eq_true rfl) ?_
        rw [hat]
        refine zg_iconst zd_Cutter_findWeakest_37 ?_
        refine zg_icmp_ne (tgt := 162) zd_Cutter_findWeakest_38 (by decide) (by omega) (by omega) (fun b38 => ?_) (fun b38 => ?_)
        · first
          | exact hnot b38
          | (exfalso; have := h16 m hm2 b38; omega)
        · refine zg_iconst zd_Cutter_findWeakest_41 ?_
          refine zg_il3 zd_Cutter_findWeakest_42 ?_
          refine zg_imul zd_Cutter_findWeakest_43 ?_
          refine zg_iconst zd_Cutter_findWeakest_44 ?_
          refine zg_iadd zd_Cutter_findWeakest_45 ?_
          refine zg_bipush zd_Cutter_findWeakest_46 (by decide) ?_
          refine zg_icmp_ge (tgt := 162) zd_Cutter_findWeakest_48 (by decide) (by omega) (by omega) (fun b48 => ?_) (fun b48 => ?_)
          · first
            | exact hnot b38
            | (exfalso; have := h16 m hm2 b38; omega)
          · refine zg_al0 zd_Cutter_findWeakest_51 ?_
            refine zg_getr zd_Cutter_findWeakest_52 zf_250 (by omega) (by first | assumption | rfl) rfl (by first | assumption | rfl) ?_
            refine zg_il3 zd_Cutter_findWeakest_55 ?_
            refine zg_al0 zd_Cutter_findWeakest_56 ?_
            refine zg_getr zd_Cutter_findWeakest_57 zf_250 (by omega) (by first | assumption | rfl) rfl (by first | assumption | rfl) ?_
            refine zg_iconst zd_Cutter_findWeakest_60 ?_
            refine zg_il3 zd_Cutter_findWeakest_61 ?_
            refine zg_imul zd_Cutter_findWeakest_62 ?_
            refine zg_iald (j := 2 * m) zd_Cutter_findWeakest_63 (by omega) rfl (by omega) (by omega) (by decide) ?_
            refine zg_al0 zd_Cutter_findWeakest_64 ?_
            refine zg_getr zd_Cutter_findWeakest_65 zf_250 (by omega) (by first | assumption | rfl) rfl (by first | assumption | rfl) ?_
            refine zg_iconst zd_Cutter_findWeakest_68 ?_
            refine zg_il3 zd_Cutter_findWeakest_69 ?_
            refine zg_imul zd_Cutter_findWeakest_70 ?_
            refine zg_iconst zd_Cutter_findWeakest_71 ?_
            refine zg_iadd zd_Cutter_findWeakest_72 ?_
            refine zg_iald (j := 2 * m + 1) zd_Cutter_findWeakest_73 (by omega) rfl (by omega) (by omega) (by decide) ?_
            rw [(hW1a (2 * m) (by omega)).1, (hW1a (2 * m + 1) (by omega)).1, (hin (2 * m) (by omega) (by omega)).1, (hin (2 * m + 1) (by omega) (by omega)).1]
            refine zg_iadd zd_Cutter_findWeakest_74 ?_
            rw [← zc_l_k hm1 hm2 b38]
            refine zg_iast zd_Cutter_findWeakest_75 (by omega) (by first | assumption | rfl) rfl (by omega) (by decide) ?_
            refine zg_al0 zd_Cutter_findWeakest_76 ?_
            refine zg_getr zd_Cutter_findWeakest_77 zf_251 (by omega) (by first | assumption | rfl) rfl (by first | assumption | rfl) ?_
            refine zg_il3 zd_Cutter_findWeakest_80 ?_
            refine zg_al0 zd_Cutter_findWeakest_81 ?_
            refine zg_getr zd_Cutter_findWeakest_82 zf_251 (by omega) (by first | assumption | rfl) rfl (by first | assumption | rfl) ?_
            refine zg_iconst zd_Cutter_findWeakest_85 ?_
            refine zg_il3 zd_Cutter_findWeakest_86 ?_
            refine zg_imul zd_Cutter_findWeakest_87 ?_
            refine zg_iald (j := 2 * m) zd_Cutter_findWeakest_88 (by omega) rfl (by omega) (by omega) (by decide) ?_
            refine zg_al0 zd_Cutter_findWeakest_89 ?_
            refine zg_getr zd_Cutter_findWeakest_90 zf_251 (by omega) (by first | assumption | rfl) rfl (by first | assumption | rfl) ?_
            refine zg_iconst zd_Cutter_findWeakest_93 ?_
            refine zg_il3 zd_Cutter_findWeakest_94 ?_
            refine zg_imul zd_Cutter_findWeakest_95 ?_
            refine zg_iconst zd_Cutter_findWeakest_96 ?_
            refine zg_iadd zd_Cutter_findWeakest_97 ?_
            refine zg_iald (j := 2 * m + 1) zd_Cutter_findWeakest_98 (by omega) rfl (by omega) (by omega) (by decide) ?_
            rw [zg_u_out _ _ _ _ (show (221 : Nat) ≠ 220 by decide), (hW1a (2 * m) (by omega)).2, (hW1a (2 * m + 1) (by omega)).2, (hin (2 * m) (by omega) (by omega)).2, (hin (2 * m + 1) (by omega) (by omega)).2]
            refine zg_iadd zd_Cutter_findWeakest_99 ?_
            rw [← zc_s_k hm1 hm2 b38]
            refine zg_iast zd_Cutter_findWeakest_100 (by omega) (by first | assumption | rfl) rfl (by omega) (by decide) ?_
            refine zg_al0 zd_Cutter_findWeakest_101 ?_
            refine zg_getr zd_Cutter_findWeakest_102 zf_248 (by omega) (by first | assumption | rfl) rfl (by first | assumption | rfl) ?_
            refine zg_al1 zd_Cutter_findWeakest_105 ?_
            refine zg_il3 zd_Cutter_findWeakest_106 ?_
            refine zg_aald zd_Cutter_findWeakest_107 (by omega) (by first | assumption | rfl) rfl rfl rfl (by omega) (by decide) (by first | assumption | rfl) ?_
            refine zg_geti zd_Cutter_findWeakest_108 zf_123 (by omega) (by first | assumption | rfl) rfl ?_
            refine zg_al0 zd_Cutter_findWeakest_111 ?_
            refine zg_getr zd_Cutter_findWeakest_112 zf_251 (by omega) (by first | assumption | rfl) rfl (by first | assumption | rfl) ?_
            refine zg_il3 zd_Cutter_findWeakest_115 ?_
            refine zg_iald zd_Cutter_findWeakest_116 (by omega) (by first | assumption | rfl) rfl (by omega) (by decide) ?_
            rw [zg_u_in, zg_u_out _ _ _ _ (show 40 + 5 * m ≠ 221 by omega), zg_u_out _ _ _ _ (show 40 + 5 * m ≠ 220 by omega), hW1o _ (by omega) (by omega), hWm]
            have hp1 := hpos m hm1 hm2 b38
            have hs1 := hsb m hm1 hm2
            have hl1 := hl2 m hm1 hm2 b38
            have hl3 := hlb m hm1 hm2
            refine zg_isub zd_Cutter_findWeakest_117 ?_
            refine zg_i2l zd_Cutter_findWeakest_118 (by omega) ?_
            refine zg_al0 zd_Cutter_findWeakest_119 ?_
            refine zg_getr zd_Cutter_findWeakest_120 zf_250 (by omega) (by first | assumption | rfl) rfl (by first | assumption | rfl) ?_
            refine zg_il3 zd_Cutter_findWeakest_123 ?_
            refine zg_iald zd_Cutter_findWeakest_124 (by omega) (by first | assumption | rfl) rfl (by omega) (by decide) ?_
            rw [zg_u_out _ _ _ _ (show (220 : Nat) ≠ 221 by decide), zg_u_in]
            refine zg_iconst zd_Cutter_findWeakest_125 ?_
            refine zg_isub zd_Cutter_findWeakest_126 ?_
            refine zg_i2l zd_Cutter_findWeakest_127 (by omega) ?_
            rw [show V (40 + 5 * m) 2 - zc_s (zt_er V) (V 217) m = ((zc_t (zt_er V) (V 217) m : Nat) : Int) by unfold zc_t; show _ = ((V (40 + 5 * m) 2 - zc_s (zt_er V) (V 217) m).toNat : Int); omega, show zc_l (V 217) m - 1 = ((zc_b (V 217) m : Nat) : Int) by unfold zc_b; omega]
            refine zg_cVq2 zd_Cutter_findWeakest_128 zM_Fraction_set zw_607 zi_Fraction_set zs_Fraction_set (ct_fset (by decide) rfl (by unfold zc_t; show (V (40 + 5 * m) 2 - zc_s (zt_er V) (V 217) m).toNat < _; omega) (by unfold zc_b; omega)) (by decide) (by decide) (by omega) (by first | assumption | rfl) (by decide) rfl (Nat.le_of_ble_eq_true rfl) ?_
            exact cand b38 _ rfl
  exact key 31 V false (by omega) zv_on_rf (fun j h1 h2 => by omega) (Or.inl ⟨rfl, fun j h1 h2 => by omega⟩)
end ZT15

