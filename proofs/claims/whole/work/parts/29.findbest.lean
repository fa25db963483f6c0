/-! SplitSearch.findBest -/
abbrev zt_τ (V : zg_V) (n : Nat) : zx_τ := (zt_va V, V 19, V 20, n)
theorem zt_mk16 {p : Nat → Bool} {n : Nat} (h : n ≤ 16) : zs_mk p n < 65536 := zs_mk_lt16 p h
theorem zx_TB_b {V : zg_V} {n : Nat} (hT : zt_T V n) {cr lf : Int} {s f : Nat} {t : Int} (hlf : 1 ≤ lf) (hok : zx_ok (zt_τ V n) lf s f t) : 0 ≤ zx_T (zt_τ V n) cr s f t ∧ zx_T (zt_τ V n) cr s f t ≤ 1048576 ∧ 1 ≤ zx_B (zt_τ V n) cr s f t ∧ zx_B (zt_τ V n) cr s f t ≤ 8192 := by
  have hL : 0 ≤ zx_L (zt_τ V n) s f t ∧ zx_L (zt_τ V n) s f t ≤ 16 := zt_w_16 hT _
  have hR : 0 ≤ zx_R (zt_τ V n) s f t ∧ zx_R (zt_τ V n) s f t ≤ 16 := zt_w_16 hT _
  have hX : ∀ c, c < 4 → (0 ≤ zx_X (zt_τ V n) s f t c ∧ zx_X (zt_τ V n) s f t c ≤ 16) ∧ (0 ≤ zx_Y (zt_τ V n) s f t c ∧ zx_Y (zt_τ V n) s f t c ≤ 16) := fun c _ => ⟨zt_w_16 hT _, zt_w_16 hT _⟩
  have h1 := zx_top_b (cr := cr) hX hL hR
  have h2 := zx_bot_b (cr := cr) (l := zx_L (zt_τ V n) s f t) (r := zx_R (zt_τ V n) s f t) ⟨by have := hok.2.1; omega, hL.2⟩ ⟨by have := hok.2.2; omega, hR.2⟩
  exact ⟨h1.1, h1.2, h2.1, h2.2⟩
/-- the cells that the search writes -/
def zx_S (b : Nat) : Nat → Prop := fun a => a = b ∨ a = b + 1 ∨ (204 ≤ a ∧ a ≤ 209)
section ZT10
variable {Γ : zg_C} {V : zg_V} {k sh : Nat}
theorem ct_best (hk : k < 32) {s n : Nat} {cr lf : Int} (hs : s < 65536) (hs0 : V (40 + 5 * k) 0 = (s : Int)) (hcr : 0 ≤ cr ∧ cr ≤ 2) (hlf : 1 ≤ lf ∧ lf ≤ 8) (hT : zt_T V n) : zg_S Γ zm_SplitSearch_findBest 4 0 0 [zg_r Γ 204, zg_r Γ 1, zg_r Γ (40 + 5 * k), zg_i cr, zg_i lf] zk_K 242 (zk_P sh) V (zq_r zk_K 242 (zk_P sh) (fun rr V' => rr = some (zg_i (zg_b (decide (0 < V' (41 + 5 * k) 0)))) ∧ zv_on (zx_S (40 + 5 * k)) V V' ∧ (∀ j, j ≠ 3 → j ≠ 4 → j ≠ 6 → V' (40 + 5 * k) j = V (40 + 5 * k) j) ∧ zx_bs (zt_τ V n) cr s (fun f t => zx_ok (zt_τ V n) lf s f t ∧ f < 3) V' (40 + 5 * k))) := by
  obtain ⟨hkn, hkw, -⟩ := zk_node k hk
  obtain ⟨hp5, -⟩ := zp_node (sh := sh) hk
  have hn16 := hT.2.1
  have hps : ∀ f, zx_ps (zt_τ V n) s f < 65536 := fun f => zt_mk16 hn16
  have hsl : ∀ p f t, zx_sl (zt_τ V n) p f t < 65536 := fun p f t => zt_mk16 hn16
  have hpos : ∀ f t, zx_ok (zt_τ V n) lf s f t → 0 ≤ zx_T (zt_τ V n) cr s f t ∧ 0 < zx_B (zt_τ V n) cr s f t := fun f t h => by
    have := zx_TB_b hT (cr := cr) hlf.1 h
    omega
  -- the worth of the node is a small fraction
  have hwb : ∀ (C : Nat → Int → Prop) (W : zg_V), (∀ f t, C f t → zx_ok (zt_τ V n) lf s f t) → zx_bs (zt_τ V n) cr s C W (40 + 5 * k) → (0 ≤ W (41 + 5 * k) 0 ∧ W (41 + 5 * k) 0 ≤ 1048576) ∧ (0 ≤ W (41 + 5 * k) 1 ∧ W (41 + 5 * k) 1 ≤ 1048576) := by
    intro C W hC hb
    rw [show 41 + 5 * k = 40 + 5 * k + 1 by omega]
    rcases hb with ⟨h1, h2, h3⟩ | ⟨f0, t0, g1, g2, g3, g4, g5, g6, g7, g8⟩
    · rw [h1, h2]; omega
    · have hb := zx_TB_b hT (cr := cr) hlf.1 (hC f0 t0 g1)
      rw [g3, g4]
      have q1 : (zx_T (zt_τ V n) cr s f0 t0).toNat / Nat.gcd (zx_T (zt_τ V n) cr s f0 t0).toNat (zx_B (zt_τ V n) cr s f0 t0).toNat ≤ (zx_T (zt_τ V n) cr s f0 t0).toNat := Nat.div_le_self _ _
      have q2 : (zx_B (zt_τ V n) cr s f0 t0).toNat / Nat.gcd (zx_T (zt_τ V n) cr s f0 t0).toNat (zx_B (zt_τ V n) cr s f0 t0).toNat ≤ (zx_B (zt_τ V n) cr s f0 t0).toNat := Nat.div_le_self _ _
      generalize (zx_T (zt_τ V n) cr s f0 t0).toNat / Nat.gcd (zx_T (zt_τ V n) cr s f0 t0).toNat (zx_B (zt_τ V n) cr s f0 t0).toNat = x at *
      generalize (zx_B (zt_τ V n) cr s f0 t0).toNat / Nat.gcd (zx_T (zt_τ V n) cr s f0 t0).toNat (zx_B (zt_τ V n) cr s f0 t0).toNat = y at *
      omega
  generalize hQ : zq_r zk_K 242 (zk_P sh) (fun rr V' => rr = some (zg_i (zg_b (decide (0 < V' (41 + 5 * k) 0)))) ∧ zv_on (zx_S (40 + 5 * k)) V V' ∧ (∀ j, j ≠ 3 → j ≠ 4 → j ≠ 6 → V' (40 + 5 * k) j = V (40 + 5 * k) j) ∧ zx_bs (zt_τ V n) cr s (fun f t => zx_ok (zt_τ V n) lf s f t ∧ f < 3) V' (40 + 5 * k)) = Q
  refine zg_enter 3 (by decide) (Nat.le_of_ble_eq_true rfl) rfl ?_
  refine zg_al2 zd_SplitSearch_findBest_0 ?_
  refine zg_getr zd_SplitSearch_findBest_1 zf_135 (by omega) (by first | assumption | rfl) rfl (by first | assumption | rfl) ?_
  refine zg_lconst (z := ((0 : Nat) : Int)) zd_SplitSearch_findBest_4 rfl ?_
  refine zg_lconst (z := ((1 : Nat) : Int)) zd_SplitSearch_findBest_5 rfl ?_
  refine zg_cVq2 zd_SplitSearch_findBest_6 zM_Fraction_set zw_405 zi_Fraction_set zs_Fraction_set (ct_fset (by omega) hkw (by decide) (by decide)) (by decide) (by decide) (by omega) (by first | assumption | rfl) (by decide) rfl (Nat.le_of_ble_eq_true rfl) ?_
  refine zg_iconst zd_SplitSearch_findBest_9 ?_
  refine zg_is5 zd_SplitSearch_findBest_10 (fun w h => by cases h <;> rfl) (by decide) ?_
  have outer : ∀ (j f : Nat) (W : zg_V) (o6 o7 : Option Value) (hij : f + j = 3) (hW : zv_on (zx_S (40 + 5 * k)) V W) (hWn : ∀ j, j ≠ 3 → j ≠ 4 → j ≠ 6 → W (40 + 5 * k) j = V (40 + 5 * k) j) (hbs : zx_bs (zt_τ V n) cr s (fun f' t' => zx_ok (zt_τ V n) lf s f' t' ∧ f' < f) W (40 + 5 * k)) (ho6 : ∀ w, o6 = some w → w.category = 1), zg_G Γ (fun _ => True) zm_SplitSearch_findBest (zg_rm 4 0 0) (zg_Ω Γ (Q) 0 0) 0 0 12 [some (zg_r Γ (204)), some (zg_r Γ (1)), some (zg_r Γ (40 + 5 * k)), some (zg_i (cr)), some (zg_i (lf)), some (zg_i ((f : Nat))), o6, o7] [] zk_K 242 (zk_P sh) (W) := by
    intro j
    induction j with
    | zero =>
      intro f W o6 o7 hij hW hWn hbs ho6
      have e : f = 3 := by omega
      subst e
      have hw1 := (hwb _ W (fun f t h => h.1) hbs).1
      have hc1 : zg_cmp (W (41 + 5 * k) 0) 0 = 1 ∨ zg_cmp (W (41 + 5 * k) 0) 0 = 0 ∨ zg_cmp (W (41 + 5 * k) 0) 0 = -1 := by unfold zg_cmp; split <;> (try split) <;> simp
      have hc2 : (zg_cmp (W (41 + 5 * k) 0) 0 ≤ 0 ↔ ¬ 0 < W (41 + 5 * k) 0) := by unfold zg_cmp; split <;> (try split) <;> omega
      refine zg_il5 zd_SplitSearch_findBest_12 ?_
      refine zg_iconst zd_SplitSearch_findBest_14 ?_
      refine zg_icmp_ge (tgt := 132) zd_SplitSearch_findBest_15 (by decide) (by omega) (by omega) (fun b15 => ?_) (fun b15 => ?_)
      · refine zg_al2 zd_SplitSearch_findBest_132 ?_
        refine zg_getr zd_SplitSearch_findBest_133 zf_135 (by omega) (by first | assumption | rfl) rfl (by first | assumption | rfl) ?_
        refine zg_getl zd_SplitSearch_findBest_136 zf_79 (by omega) (by first | assumption | rfl) rfl ?_
        refine zg_lconst (z := 0) zd_SplitSearch_findBest_139 rfl ?_
        refine zg_lcmp zd_SplitSearch_findBest_140 (by omega) (by omega) ?_
        refine zg_if_le (tgt := 148) zd_SplitSearch_findBest_141 (by decide) (by omega) (fun b141 => ?_) (fun b141 => ?_)
        · refine zg_iconst zd_SplitSearch_findBest_148 ?_
          refine zg_zreturn zd_SplitSearch_findBest_149 rfl (by omega) ?_
          subst hQ
          exact ⟨rfl, rfl, rfl, by rw [zg_b_eq]; simp; omega, hW, hWn, hbs⟩
        · refine zg_iconst zd_SplitSearch_findBest_144 ?_
          refine zg_goto (tgt := 149) zd_SplitSearch_findBest_145 (by decide) ?_
          refine zg_zreturn zd_SplitSearch_findBest_149 rfl (by omega) ?_
          subst hQ
          exact ⟨rfl, rfl, rfl, by rw [zg_b_eq]; simp; omega, hW, hWn, hbs⟩
      · omega
    | succ j ih =>
      intro f W o6 o7 hij hW hWn hbs ho6
      have hTW : zt_T W n := zt_T_fr (fun b hb => hW b (by unfold zx_S; omega)) hT
      have hva : ∀ r, r < 16 → W (3 + r) = V (3 + r) := fun r hr => hW (3 + r) (by unfold zx_S; omega)
      have hW19 : W 19 = V 19 := hW 19 (by unfold zx_S; omega)
      have hW20 : W 20 = V 20 := hW 20 (by unfold zx_S; omega)
      have hWs : W (40 + 5 * k) 0 = (s : Int) := by rw [hWn 0 (by decide) (by decide) (by decide), hs0]
      sorry
  refine outer 3 0 _ _ _ (by omega) ?_ ?_ ?_ ?_
  · sorry
  · sorry
  · sorry
  · intro w h; cases h
end ZT10

