/-! SplitSearch.findBest -/
abbrev zt_τ (V : zg_V) (n : Nat) : zx_τ := (zt_va V, V 19, V 20, n)
theorem zt_mk16 {p : Nat → Bool} {n : Nat} (h : n ≤ 16) : zs_mk p n < 65536 := zs_mk_lt16 p h
theorem zx_TB_b {V : zg_V} {n : Nat} (hT : zt_T V n) {cr lf : Int} {s f : Nat} {t : Int} (hlf : 1 ≤ lf) (hok : zx_ok (zt_τ V n) lf s f t) : 0 ≤ zx_T (zt_τ V n) cr s f t ∧ zx_T (zt_τ V n) cr s f t ≤ 1048576 ∧ 1 ≤ zx_B (zt_τ V n) cr s f t ∧ zx_B (zt_τ V n) cr s f t ≤ 8192 := by
  have hL : 0 ≤ zx_L (zt_τ V n) s f t ∧ zx_L (zt_τ V n) s f t ≤ 16 := zt_w_16 hT _
  have hR : 0 ≤ zx_R (zt_τ V n) s f t ∧ zx_R (zt_τ V n) s f t ≤ 16 := zt_w_16 hT _
  have hX : ∀ c, c < 4 → (0 ≤ zx_X (zt_τ V n) s f t c ∧ zx_X (zt_τ V n) s f t c ≤ 16) ∧ (0 ≤ zx_Y (zt_τ V n) s f t c ∧ zx_Y (zt_τ V n) s f t c ≤ 16) := fun c _ => ⟨zt_w_16 hT _, zt_w_16 hT _⟩
  have h1 := zx_top_b (cr := cr) hX hL hR
  have h2 := zx_bot_b (cr := cr) (l := zx_L (zt_τ V n) s f t) (r := zx_R (zt_τ V n) s f t) ⟨by have := hok.2.1; omega, hL.2⟩ ⟨by have := hok.2.2; omega, hR.2⟩
  exact ⟨h1.1, h1.2, h2.1, h2.2⟩
theorem zs_mk_congr {p q : Nat → Bool} : ∀ {n : Nat}, (∀ i, i < n → p i = q i) → zs_mk p n = zs_mk q n
  | 0, _ => rfl
  | n + 1, h => by rw [zs_mk_s, zs_mk_s, h n (by omega), zs_mk_congr (fun i hi => h i (by omega))]
theorem zt_pres_congr {va va' : Nat → Nat → Int} {n : Nat} (h : ∀ r, r < n → va r = va' r) (s f : Nat) : zt_pres va s f n = zt_pres va' s f n := zs_mk_congr (fun i hi => by rw [h i hi])
theorem zt_upto_congr {va va' : Nat → Nat → Int} {n : Nat} (h : ∀ r, r < n → va r = va' r) (s f : Nat) (t : Int) : zt_upto va s f t n = zt_upto va' s f t n := zs_mk_congr (fun i hi => by rw [h i hi])
/-- the cells that the search writes -/
def zx_S (b : Nat) : Nat → Prop := fun a => a = b ∨ a = b + 1 ∨ (204 ≤ a ∧ a ≤ 209)
section ZT10
variable {Γ : zg_C} {V : zg_V} {k sh : Nat}
theorem ct_best (hk : k < 32) {s n : Nat} {cr lf : Int} (hs : s < 65536) (hs0 : V (40 + 5 * k) 0 = (s : Int)) (hcr : 0 ≤ cr ∧ cr ≤ 2) (hlf : 1 ≤ lf ∧ lf ≤ 8) (hT : zt_T V n) : zg_S Γ zm_SplitSearch_findBest 4 0 0 [zg_r Γ 204, zg_r Γ 1, zg_r Γ (40 + 5 * k), zg_i cr, zg_i lf] zk_K 242 (zk_P sh) V (zq_r zk_K 242 (zk_P sh) (fun rr V' => rr = some (zg_i (zg_b (decide (0 < V' (41 + 5 * k) 0)))) ∧ zv_on (zx_S (40 + 5 * k)) V V' ∧ (∀ j, j ≠ 3 → j ≠ 4 → j ≠ 6 → V' (40 + 5 * k) j = V (40 + 5 * k) j) ∧ zx_bs (zt_τ V n) cr s (fun f t => zx_ok (zt_τ V n) lf s f t ∧ f < 3) V' (40 + 5 * k))) := by
  obtain ⟨hkn, hkw, -⟩ := zk_node k hk
  obtain ⟨hp5, -⟩ := zp_node (sh := sh) hk
  have hn16 := hT.2.1
  have hps : ∀ f, zx_ps (zt_τ V n) s f < 65536 := fun f => zt_mk16 hn16
  have hsl : ∀ p f t, zx_sl (zt_τ V n) p f t < 65536 := fun p f t => zt_mk16 hn16
  have hpos : ∀ f t, zx_ok (zt_τ V n) lf s f t → 0 ≤ zx_T (zt_τ V n) cr s f t ∧ 0 < zx_B (zt_τ V n) cr s f t := fun f t h => by
    have := zx_TB_b hT (cr := cr) hlf.1 h
    omega
  -- the worth of the node is a small fraction
  have hwb : ∀ (C : Nat → Int → Prop) (W : zg_V), (∀ f t, C f t → zx_ok (zt_τ V n) lf s f t) → zx_bs (zt_τ V n) cr s C W (40 + 5 * k) → (0 ≤ W (41 + 5 * k) 0 ∧ W (41 + 5 * k) 0 ≤ 1048576) ∧ (0 ≤ W (41 + 5 * k) 1 ∧ W (41 + 5 * k) 1 ≤ 1048576) := by
    intro C W hC hb
    rw [show 41 + 5 * k = 40 + 5 * k + 1 by omega]
    rcases hb with ⟨h1, h2, h3⟩ | ⟨f0, t0, g1, g2, g3, g4, g5, g6, g7, g8⟩
    · rw [h1, h2]; omega
    · have hb := zx_TB_b hT (cr := cr) hlf.1 (hC f0 t0 g1)
      rw [g3, g4]
      have q1 : (zx_T (zt_τ V n) cr s f0 t0).toNat / Nat.gcd (zx_T (zt_τ V n) cr s f0 t0).toNat (zx_B (zt_τ V n) cr s f0 t0).toNat ≤ (zx_T (zt_τ V n) cr s f0 t0).toNat := Nat.div_le_self _ _
      have q2 : (zx_B (zt_τ V n) cr s f0 t0).toNat / Nat.gcd (zx_T (zt_τ V n) cr s f0 t0).toNat (zx_B (zt_τ V n) cr s f0 t0).toNat ≤ (zx_B (zt_τ V n) cr s f0 t0).toNat := Nat.div_le_self _ _
      generalize (zx_T (zt_τ V n) cr s f0 t0).toNat / Nat.gcd (zx_T (zt_τ V n) cr s f0 t0).toNat (zx_B (zt_τ V n) cr s f0 t0).toNat = x at *
      generalize (zx_B (zt_τ V n) cr s f0 t0).toNat / Nat.gcd (zx_T (zt_τ V n) cr s f0 t0).toNat (zx_B (zt_τ V n) cr s f0 t0).toNat = y at *
      omega
  generalize hQ : zq_r zk_K 242 (zk_P sh) (fun rr V' => rr = some (zg_i (zg_b (decide (0 < V' (41 + 5 * k) 0)))) ∧ zv_on (zx_S (40 + 5 * k)) V V' ∧ (∀ j, j ≠ 3 → j ≠ 4 → j ≠ 6 → V' (40 + 5 * k) j = V (40 + 5 * k) j) ∧ zx_bs (zt_τ V n) cr s (fun f t => zx_ok (zt_τ V n) lf s f t ∧ f < 3) V' (40 + 5 * k)) = Q
  refine zg_enter 3 (by decide) (Nat.le_of_ble_eq_true rfl) rfl ?_
  refine zg_al2 zd_SplitSearch_findBest_0 ?_
  refine zg_getr zd_SplitSearch_findBest_1 zf_135 (by omega) (by first | assumption | rfl) rfl (by first | assumption | rfl) ?_
  refine zg_lconst (z := ((0 : Nat) : Int)) zd_SplitSearch_findBest_4 rfl ?_
  refine zg_lconst (z := ((1 : Nat) : Int)) zd_SplitSearch_findBest_5 rfl ?_
  refine zg_cVq2 zd_SplitSearch_findBest_6 zM_Fraction_set zw_405 zi_Fraction_set zs_Fraction_set (ct_fset (by omega) hkw (by decide) (by decide)) (by decide) (by decide) (by omega) (by first | assumption | rfl) (by decide) rfl (Nat.le_of_ble_eq_true rfl) ?_
  refine zg_iconst zd_SplitSearch_findBest_9 ?_
  refine zg_is5 zd_SplitSearch_findBest_10 (fun w h => by cases h <;> rfl) (by decide) ?_
  have outer : ∀ (j f : Nat) (W : zg_V) (o6 o7 : Option Value) (hij : f + j = 3) (hW : zv_on (zx_S (40 + 5 * k)) V W) (hWn : ∀ j, j ≠ 3 → j ≠ 4 → j ≠ 6 → W (40 + 5 * k) j = V (40 + 5 * k) j) (hbs : zx_bs (zt_τ V n) cr s (fun f' t' => zx_ok (zt_τ V n) lf s f' t' ∧ f' < f) W (40 + 5 * k)) (ho6 : ∀ w, o6 = some w → w.category = 1), zg_G Γ (fun _ => True) zm_SplitSearch_findBest (zg_rm 4 0 0) (zg_Ω Γ (Q) 0 0) 0 0 12 [some (zg_r Γ (204)), some (zg_r Γ (1)), some (zg_r Γ (40 + 5 * k)), some (zg_i (cr)), some (zg_i (lf)), some (zg_i ((f : Nat))), o6, o7] [] zk_K 242 (zk_P sh) (W) := by
    intro j
    induction j with
    | zero =>
      intro f W o6 o7 hij hW hWn hbs ho6
      have e : f = 3 := by omega
      subst e
      have hw1 := (hwb _ W (fun f t h => h.1) hbs).1
      have hc1 : zg_cmp (W (41 + 5 * k) 0) 0 = 1 ∨ zg_cmp (W (41 + 5 * k) 0) 0 = 0 ∨ zg_cmp (W (41 + 5 * k) 0) 0 = -1 := by unfold zg_cmp; split <;> (try split) <;> simp
      have hc2 : (zg_cmp (W (41 + 5 * k) 0) 0 ≤ 0 ↔ ¬ 0 < W (41 + 5 * k) 0) := by unfold zg_cmp; split <;> (try split) <;> omega
      refine zg_il5 zd_SplitSearch_findBest_12 ?_
      refine zg_iconst zd_SplitSearch_findBest_14 ?_
      refine zg_icmp_ge (tgt := 132) zd_SplitSearch_findBest_15 (by decide) (by omega) (by omega) (fun b15 => ?_) (fun b15 => ?_)
      · refine zg_al2 zd_SplitSearch_findBest_132 ?_
        refine zg_getr zd_SplitSearch_findBest_133 zf_135 (by omega) (by first | assumption | rfl) rfl (by first | assumption | rfl) ?_
        refine zg_getl zd_SplitSearch_findBest_136 zf_79 (by omega) (by first | assumption | rfl) rfl ?_
        refine zg_lconst (z := 0) zd_SplitSearch_findBest_139 rfl ?_
        refine zg_lcmp zd_SplitSearch_findBest_140 (by omega) (by omega) ?_
        refine zg_if_le (tgt := 148) zd_SplitSearch_findBest_141 (by decide) (by omega) (fun b141 => ?_) (fun b141 => ?_)
        · refine zg_iconst zd_SplitSearch_findBest_148 ?_
          refine zg_zreturn zd_SplitSearch_findBest_149 rfl (by omega) ?_
          subst hQ
          exact ⟨rfl, rfl, rfl, by rw [zg_b_eq]; simp; omega, hW, hWn, hbs⟩
        · refine zg_iconst zd_SplitSearch_findBest_144 ?_
          refine zg_goto (tgt := 149) zd_SplitSearch_findBest_145 (by decide) ?_
          refine zg_zreturn zd_SplitSearch_findBest_149 rfl (by omega) ?_
          subst hQ
          exact ⟨rfl, rfl, rfl, by rw [zg_b_eq]; simp; omega, hW, hWn, hbs⟩
      · omega
    | succ j ih =>
      intro f W o6 o7 hij hW hWn hbs ho6
      have hTW : zt_T W n := zt_T_fr (fun b hb => hW b (by unfold zx_S; omega)) hT
      have hva : ∀ r, r < 16 → W (3 + r) = V (3 + r) := fun r hr => hW (3 + r) (by unfold zx_S; omega)
      have hW19 : W 19 = V 19 := hW 19 (by unfold zx_S; omega)
      have hW20 : W 20 = V 20 := hW 20 (by unfold zx_S; omega)
      have hWs : W (40 + 5 * k) 0 = (s : Int) := by rw [hWn 0 (by decide) (by decide) (by decide), hs0]
      have hpw : zt_pres (zt_va W) s f n = zx_ps (zt_τ V n) s f := zt_pres_congr (fun r hr => hva r (by omega)) s f
      generalize hp : zx_ps (zt_τ V n) s f = p at hpw
      have hp16 : p < 65536 := by rw [← hp]; exact hps f
      have inner : ∀ (d : Nat) (g : Nat → Int) (hd : d ≤ n) (hS : zl_S g d) (hin : ∀ x, zl_in g d x ↔ zx_vl (zt_τ V n) p f x) (j' i : Nat) (U : zg_V) (hij : i + j' = d - 1) (hU : zv_on (zx_S (40 + 5 * k)) V U) (hUn : ∀ j, j ≠ 3 → j ≠ 4 → j ≠ 6 → U (40 + 5 * k) j = V (40 + 5 * k) j) (hUd : U 205 1 = (d : Int)) (hUg : U 206 = g)
          (hbs : zx_bs (zt_τ V n) cr s (fun f' t' => zx_ok (zt_τ V n) lf s f' t' ∧ (f' < f ∨ (f' = f ∧ ∃ i', i' < i ∧ t' = (g i' + g (i' + 1)) / 2))) U (40 + 5 * k)), zg_G Γ (fun _ => True) zm_SplitSearch_findBest (zg_rm 4 0 0) (zg_Ω Γ (Q) 0 0) 0 0 45 [some (zg_r Γ (204)), some (zg_r Γ (1)), some (zg_r Γ (40 + 5 * k)), some (zg_i (cr)), some (zg_i (lf)), some (zg_i ((f : Nat))), some (zg_i (p)), some (zg_i ((i : Nat)))] [] zk_K 242 (zk_P sh) (U) := by
        intro d g hd hS hin j'
        induction j' with
        | zero =>
          intro i U hij hU hUn hUd hUg hbs
          have e : i = d - 1 := by omega
          subst e
          have hbs2 : zx_bs (zt_τ V n) cr s (fun f' t' => zx_ok (zt_τ V n) lf s f' t' ∧ f' < f + 1) U (40 + 5 * k) := by
            refine zx_bs_iff (fun f' t' => ?_) hbs
            constructor
            · rintro ⟨q1, q2 | ⟨q2, -⟩⟩
              · exact ⟨q1, by omega⟩
              · exact ⟨q1, by omega⟩
            · rintro ⟨q1, q2⟩
              refine ⟨q1, ?_⟩
              by_cases e : f' = f
              · subst e
                obtain ⟨i', q3, q4⟩ := (zx_cut_l hS hin t').mp (by rw [← hp]; exact q1.1)
                exact Or.inr ⟨rfl, i', by omega, q4⟩
              · exact Or.inl (by omega)
          have ih := ih (f + 1) U (some (zg_i p)) (some (zg_i ((d - 1 : Nat) : Int))) (by omega) hU hUn hbs2 (fun w hw => by cases hw; rfl)
          refine zg_il7 zd_SplitSearch_findBest_45 ?_
          refine zg_al0 zd_SplitSearch_findBest_47 ?_
          refine zg_getr zd_SplitSearch_findBest_48 zf_199 (by omega) (by first | assumption | rfl) rfl (by first | assumption | rfl) ?_
          refine zg_cVp0 zd_SplitSearch_findBest_51 zM_Limits_count zw_426 zi_Limits_count zs_Limits_count (ct_lcount (Or.inl rfl) hUd (by omega)) (by decide) (by decide) (by omega) (by first | assumption | rfl) (by decide) rfl (Nat.le_of_ble_eq_true rfl) ?_
          refine zg_icmp_ge (tgt := 126) zd_SplitSearch_findBest_54 (by decide) (by omega) (by omega) (fun b54 => ?_) (fun b54 => ?_)
          · refine zg_inc5 zd_SplitSearch_findBest_126 (fun w h => by cases h <;> rfl) (by decide) ?_
            refine zg_goto (tgt := 12) zd_SplitSearch_findBest_129 (by decide) ?_
            exact ih
          · omega
        | succ j' ihi =>
          intro i U hij hU hUn hUd hUg hbs
          have hi1 : i + 1 < d := by omega
          have hTU : zt_T U n := zt_T_fr (fun b hb => hU b (by unfold zx_S; omega)) hT
          have hUva : ∀ r, r < 16 → U (3 + r) = V (3 + r) := fun r hr => hU (3 + r) (by unfold zx_S; omega)
          have hU19 : U 19 = V 19 := hU 19 (by unfold zx_S; omega)
          have hU20 : U 20 = V 20 := hU 20 (by unfold zx_S; omega)
          generalize ht : (g i + g (i + 1)) / 2 = t
          have htb : -2147483648 ≤ t ∧ t < 2147483648 := by rw [← ht]; exact zx_cut_b hS hi1
          have hslU : zt_upto (zt_va U) p f t n = zx_sl (zt_τ V n) p f t := zt_upto_congr (fun r hr => hUva r (by omega)) p f t
          have hr1 := hS.2 i (by omega)
          have hr2' := hS.2 (i + 1) hi1
          have hcut : zx_cut (zt_τ V n) p f t := (zx_cut_l hS hin t).mpr ⟨i, hi1, ht.symm⟩
          have hL : zt_w (V 20) (zx_sl (zt_τ V n) p f t) n = zx_L (zt_τ V n) s f t := by rw [← hp]; rfl
          have hR : zt_w (V 20) (zb_df p (zx_sl (zt_τ V n) p f t)) n = zx_R (zt_τ V n) s f t := by rw [← hp]; rfl
          have hX : ∀ c, zt_ms (V 19) (V 20) (zx_sl (zt_τ V n) p f t) n c = zx_X (zt_τ V n) s f t c := fun c => by rw [← hp]; rfl
          have hY : ∀ c, zt_ms (V 19) (V 20) (zb_df p (zx_sl (zt_τ V n) p f t)) n c = zx_Y (zt_τ V n) s f t c := fun c => by rw [← hp]; rfl
          have hLb : 0 ≤ zx_L (zt_τ V n) s f t ∧ zx_L (zt_τ V n) s f t ≤ 16 := zt_w_16 hT _
          have hRb : 0 ≤ zx_R (zt_τ V n) s f t ∧ zx_R (zt_τ V n) s f t ≤ 16 := zt_w_16 hT _
          have hXb : ∀ c, c < 4 → (0 ≤ zx_X (zt_τ V n) s f t c ∧ zx_X (zt_τ V n) s f t c ≤ 16) ∧ (0 ≤ zx_Y (zt_τ V n) s f t c ∧ zx_Y (zt_τ V n) s f t c ≤ 16) := fun c _ => ⟨zt_w_16 hT _, zt_w_16 hT _⟩
          -- the candidates behind this one
          have hlast : ∀ f' t', (zx_ok (zt_τ V n) lf s f' t' ∧ (f' < f ∨ (f' = f ∧ ∃ i', i' < i ∧ t' = (g i' + g (i' + 1)) / 2))) → f' < f ∨ (f' = f ∧ t' < t) := by
            rintro f' t' ⟨-, q | ⟨q1, i', q2, q3⟩⟩
            · exact Or.inl q
            · refine Or.inr ⟨q1, ?_⟩
              rw [q3, ← ht]
              exact zx_cut_lt hS q2 hi1
          have hnot : ¬ zx_ok (zt_τ V n) lf s f t → ∀ f' t', (zx_ok (zt_τ V n) lf s f' t' ∧ (f' < f ∨ (f' = f ∧ ∃ i', i' < i ∧ t' = (g i' + g (i' + 1)) / 2))) ↔ (zx_ok (zt_τ V n) lf s f' t' ∧ (f' < f ∨ (f' = f ∧ ∃ i', i' < i + 1 ∧ t' = (g i' + g (i' + 1)) / 2))) := by
            intro hno f' t'
            constructor
            · rintro ⟨q1, q2 | ⟨q2, i', q3, q4⟩⟩
              · exact ⟨q1, Or.inl q2⟩
              · exact ⟨q1, Or.inr ⟨q2, i', by omega, q4⟩⟩
            · rintro ⟨q1, q2 | ⟨q2, i', q3, q4⟩⟩
              · exact ⟨q1, Or.inl q2⟩
              · refine ⟨q1, Or.inr ⟨q2, i', ?_, q4⟩⟩
                by_cases e : i' = i
                · subst e
                  rw [ht] at q4
                  subst q2 q4
                  exact absurd q1 hno
                · omega
          have hyes : zx_ok (zt_τ V n) lf s f t → ∀ f' t', (zx_ok (zt_τ V n) lf s f' t' ∧ (f' < f ∨ (f' = f ∧ ∃ i', i' < i + 1 ∧ t' = (g i' + g (i' + 1)) / 2))) ↔ (zx_ok (zt_τ V n) lf s f' t' ∧ (f' < f ∨ (f' = f ∧ ∃ i', i' < i ∧ t' = (g i' + g (i' + 1)) / 2))) ∨ (f' = f ∧ t' = t) := by
            intro hy f' t'
            constructor
            · rintro ⟨q1, q2 | ⟨q2, i', q3, q4⟩⟩
              · exact Or.inl ⟨q1, Or.inl q2⟩
              · by_cases e : i' = i
                · subst e
                  exact Or.inr ⟨q2, by rw [q4, ht]⟩
                · exact Or.inl ⟨q1, Or.inr ⟨q2, i', by omega, q4⟩⟩
            · rintro (⟨q1, q2 | ⟨q2, i', q3, q4⟩⟩ | ⟨q2, q3⟩)
              · exact ⟨q1, Or.inl q2⟩
              · exact ⟨q1, Or.inr ⟨q2, i', by omega, q4⟩⟩
              · subst q2 q3
                exact ⟨hy, Or.inr ⟨rfl, i, by omega, ht.symm⟩⟩
          -- behind the sides
          have rest : ∀ (V2 : zg_V), zv_on (fun b => b = 204 ∨ b = 207 ∨ b = 208) U V2 → (∀ c, c < 4 → V2 207 c = zx_X (zt_τ V n) s f t c ∧ V2 208 c = zx_Y (zt_τ V n) s f t c) → V2 204 3 = zx_L (zt_τ V n) s f t → V2 204 4 = zx_R (zt_τ V n) s f t → zg_G Γ (fun _ => True) zm_SplitSearch_findBest (zg_rm 4 0 0) (zg_Ω Γ (Q) 0 0) 0 0 81 [some (zg_r Γ (204)), some (zg_r Γ (1)), some (zg_r Γ (40 + 5 * k)), some (zg_i (cr)), some (zg_i (lf)), some (zg_i ((f : Nat))), some (zg_i (p)), some (zg_i ((i : Nat)))] [] zk_K 242 (zk_P sh) (V2) := by
            intro V2 hV2 hc2 hl2 hr2
            have hV2V : zv_on (zx_S (40 + 5 * k)) V V2 := zv_on_tr hU (zv_on_mono hV2 (fun b hb => by unfold zx_S; omega))
            have hV2n : V2 (40 + 5 * k) = U (40 + 5 * k) := hV2 _ (by omega)
            have hV2w : V2 (40 + 5 * k + 1) = U (40 + 5 * k + 1) := hV2 _ (by omega)
            have hV2d : V2 205 = U 205 := hV2 _ (by omega)
            have hV2g : V2 206 = g := by rw [hV2 206 (by omega), hUg]
            have hskip : ¬ zx_ok (zt_τ V n) lf s f t → zg_G Γ (fun _ => True) zm_SplitSearch_findBest (zg_rm 4 0 0) (zg_Ω Γ (Q) 0 0) 0 0 45 [some (zg_r Γ (204)), some (zg_r Γ (1)), some (zg_r Γ (40 + 5 * k)), some (zg_i (cr)), some (zg_i (lf)), some (zg_i ((f : Nat))), some (zg_i (p)), some (zg_i (((i : Nat) : Int) + 1))] [] zk_K 242 (zk_P sh) (V2) := fun hno => ihi (i + 1) V2 (by omega) hV2V (fun j a b c => by rw [hV2n]; exact hUn j a b c) (by rw [hV2d]; exact hUd) hV2g (zx_bs_fr hV2w hV2n (zx_bs_iff (hnot hno) hbs))
            have rest2 : zx_ok (zt_τ V n) lf s f t → ∀ V3 : zg_V, V3 = zf_set V2 209 (((zx_T (zt_τ V n) cr s f t).toNat / Nat.gcd (zx_T (zt_τ V n) cr s f t).toNat (zx_B (zt_τ V n) cr s f t).toNat : Nat) : Int) (((zx_B (zt_τ V n) cr s f t).toNat / Nat.gcd (zx_T (zt_τ V n) cr s f t).toNat (zx_B (zt_τ V n) cr s f t).toNat : Nat) : Int) → zg_G Γ (fun _ => True) zm_SplitSearch_findBest (zg_rm 4 0 0) (zg_Ω Γ (Q) 0 0) 0 0 104 [some (zg_r Γ (204)), some (zg_r Γ (1)), some (zg_r Γ (40 + 5 * k)), some (zg_i (cr)), some (zg_i (lf)), some (zg_i ((f : Nat))), some (zg_i (p)), some (zg_i ((i : Nat)))] [] zk_K 242 (zk_P sh) (V3) := by
              intro hok V3 hV3
              have hTB := zx_TB_b hT (cr := cr) hlf.1 hok
              have hV3o : ∀ b, b ≠ 209 → V3 b = V2 b := fun b hb => by rw [hV3]; unfold zf_set; rw [zg_u_out _ _ _ _ hb, zg_u_out _ _ _ _ hb]
              have hV30 : V3 209 0 = (((zx_T (zt_τ V n) cr s f t).toNat / Nat.gcd (zx_T (zt_τ V n) cr s f t).toNat (zx_B (zt_τ V n) cr s f t).toNat : Nat) : Int) := by rw [hV3]; unfold zf_set; rw [zg_u_off _ _ _ _ (by decide), zg_u_in]
              have hV31 : V3 209 1 = (((zx_B (zt_τ V n) cr s f t).toNat / Nat.gcd (zx_T (zt_τ V n) cr s f t).toNat (zx_B (zt_τ V n) cr s f t).toNat : Nat) : Int) := by rw [hV3]; unfold zf_set; rw [zg_u_in]
              have q1 : (zx_T (zt_τ V n) cr s f t).toNat / Nat.gcd (zx_T (zt_τ V n) cr s f t).toNat (zx_B (zt_τ V n) cr s f t).toNat ≤ (zx_T (zt_τ V n) cr s f t).toNat := Nat.div_le_self _ _
              have q2 : (zx_B (zt_τ V n) cr s f t).toNat / Nat.gcd (zx_T (zt_τ V n) cr s f t).toNat (zx_B (zt_τ V n) cr s f t).toNat ≤ (zx_B (zt_τ V n) cr s f t).toNat := Nat.div_le_self _ _
              have b0 : 0 ≤ V3 209 0 ∧ V3 209 0 ≤ 1048576 := by
                rw [hV30]
                generalize (zx_T (zt_τ V n) cr s f t).toNat / Nat.gcd (zx_T (zt_τ V n) cr s f t).toNat (zx_B (zt_τ V n) cr s f t).toNat = x at *
                omega
              have b1 : 0 ≤ V3 209 1 ∧ V3 209 1 ≤ 1048576 := by
                rw [hV31]
                generalize (zx_B (zt_τ V n) cr s f t).toNat / Nat.gcd (zx_T (zt_τ V n) cr s f t).toNat (zx_B (zt_τ V n) cr s f t).toNat = x at *
                omega
              have hV3n : V3 (40 + 5 * k) = U (40 + 5 * k) := by rw [hV3o _ (by omega), hV2n]
              have hV3w : V3 (40 + 5 * k + 1) = U (40 + 5 * k + 1) := by rw [hV3o _ (by omega), hV2w]
              have hV3g : V3 206 = g := by rw [hV3o _ (by decide), hV2g]
              have hV3V : zv_on (zx_S (40 + 5 * k)) V V3 := fun b hb => by rw [hV3o b (fun e => hb (by unfold zx_S; omega))]; exact hV2V b hb
              have hbs3 := zx_bs_fr hV3w hV3n hbs
              have hw3 := hwb _ V3 (fun f t h => h.1) hbs3
              have l3 : V3 204 3 = zx_L (zt_τ V n) s f t := by rw [hV3o _ (by decide), hl2]
              have r3 : V3 204 4 = zx_R (zt_τ V n) s f t := by rw [hV3o _ (by decide), hr2]
              have fin : zg_G Γ (fun _ => True) zm_SplitSearch_findBest (zg_rm 4 0 0) (zg_Ω Γ (Q) 0 0) 0 0 45 [some (zg_r Γ (204)), some (zg_r Γ (1)), some (zg_r Γ (40 + 5 * k)), some (zg_i (cr)), some (zg_i (lf)), some (zg_i ((f : Nat))), some (zg_i (p)), some (zg_i (((i : Nat) : Int) + 1))] [] zk_K 242 (zk_P sh) (if V3 (41 + 5 * k) 0 * V3 209 1 < V3 209 0 * V3 (41 + 5 * k) 1 then zx_of V3 (40 + 5 * k) f t else V3) := by
                rw [show 41 + 5 * k = 40 + 5 * k + 1 by omega, hV30, hV31]
                split
                · rename_i hcmp
                  refine ihi (i + 1) _ (by omega) (zv_on_u (zv_on_u (zv_on_u (zv_on_u (zv_on_u hV3V (Or.inr (Or.inl rfl))) (Or.inr (Or.inl rfl))) (Or.inl rfl)) (Or.inl rfl)) (Or.inl rfl)) (fun j a b c => ?_) ?_ ?_ ?_
                  · unfold zx_of zf_set
                    rw [zg_u_off _ _ _ _ c, zg_u_off _ _ _ _ b, zg_u_off _ _ _ _ a, zg_u_out _ _ _ _ (by omega), zg_u_out _ _ _ _ (by omega), hV3n]
                    exact hUn j a b c
                  · unfold zx_of zf_set
                    rw [zg_u_out _ _ _ _ (by omega), zg_u_out _ _ _ _ (by omega), zg_u_out _ _ _ _ (by omega), zg_u_out _ _ _ _ (by omega), zg_u_out _ _ _ _ (by omega), hV3o _ (by decide), hV2d]
                    exact hUd
                  · unfold zx_of zf_set
                    rw [zg_u_out _ _ _ _ (by omega), zg_u_out _ _ _ _ (by omega), zg_u_out _ _ _ _ (by omega), zg_u_out _ _ _ _ (by omega), zg_u_out _ _ _ _ (by omega)]
                    exact hV3g
                  · refine zx_bs_take hbs3 (hyes hok) (fun f' t' h => hpos f' t' h.1) hcmp ?_ ?_ ?_ ?_ ?_
                    · unfold zx_of zf_set
                      rw [zg_u_out _ _ _ _ (by omega), zg_u_out _ _ _ _ (by omega), zg_u_out _ _ _ _ (by omega), zg_u_off _ _ _ _ (by decide), zg_u_in, hV30]
                    · unfold zx_of zf_set
                      rw [zg_u_out _ _ _ _ (by omega), zg_u_out _ _ _ _ (by omega), zg_u_out _ _ _ _ (by omega), zg_u_in, hV31]
                    · unfold zx_of
                      rw [zg_u_off _ _ _ _ (by decide), zg_u_off _ _ _ _ (by decide), zg_u_in]
                    · unfold zx_of
                      rw [zg_u_off _ _ _ _ (by decide), zg_u_in]
                    · unfold zx_of
                      rw [zg_u_in, l3, r3]
                · rename_i hcmp
                  exact ihi (i + 1) _ (by omega) hV3V (fun j a b c => by rw [hV3n]; exact hUn j a b c) (by rw [hV3o _ (by decide), hV2d]; exact hUd) hV3g (zx_bs_skip hbs3 (hyes hok) hlast (fun f' t' h => hpos f' t' h.1) hcmp)
              refine zg_al0 zd_SplitSearch_findBest_104 ?_
              refine zg_al2 zd_SplitSearch_findBest_105 ?_
              refine zg_il5 zd_SplitSearch_findBest_106 ?_
              refine zg_al0 zd_SplitSearch_findBest_108 ?_
              refine zg_getr zd_SplitSearch_findBest_109 zf_199 (by omega) (by first | assumption | rfl) rfl (by first | assumption | rfl) ?_
              refine zg_il7 zd_SplitSearch_findBest_112 ?_
              refine zg_cVp1 zd_SplitSearch_findBest_114 zM_Limits_at zw_433 zi_Limits_at zs_Limits_at (ct_lat (Or.inl rfl) (by omega) (by rw [hV3g]; exact hr1) (by rw [hV3g]; exact hr2')) (by decide) (by decide) (by omega) (by first | assumption | rfl) (by decide) rfl (Nat.le_of_ble_eq_true rfl) ?_
              rw [show (205 : Nat) + 1 = 206 from rfl, hV3g, ht]
              refine zg_cVq3 zd_SplitSearch_findBest_117 zM_SplitSearch_offer zw_471 zi_SplitSearch_offer zs_SplitSearch_offer (ct_offer hk htb b0 b1 hw3.1 hw3.2 (by rw [l3]; exact hLb) (by rw [r3]; exact hRb)) (by decide) (by decide) (by omega) (by first | assumption | rfl) (by decide) rfl (Nat.le_of_ble_eq_true rfl) ?_
              refine zg_inc7 zd_SplitSearch_findBest_120 (fun w h => by cases h <;> rfl) (by decide) ?_
              refine zg_goto (tgt := 45) zd_SplitSearch_findBest_123 (by decide) ?_
              exact fin
            have hsd : zx_sd V2 (zx_X (zt_τ V n) s f t) (zx_Y (zt_τ V n) s f t) (zx_L (zt_τ V n) s f t) (zx_R (zt_τ V n) s f t) := ⟨fun c hc => ⟨(hc2 c hc).1, (hc2 c hc).2, (hXb c hc).1, (hXb c hc).2⟩, hl2, hr2, hLb, hRb⟩
            have htn : ((zx_T (zt_τ V n) cr s f t).toNat : Int) = zx_T (zt_τ V n) cr s f t := by
              have : 0 ≤ zx_T (zt_τ V n) cr s f t := (zx_top_b hXb hLb hRb).1
              omega
            refine zg_al0 zd_SplitSearch_findBest_81 ?_
            refine zg_geti zd_SplitSearch_findBest_82 zf_202 (by omega) (by first | assumption | rfl) rfl ?_
            refine zg_il4 zd_SplitSearch_findBest_85 ?_
            rw [hl2]
            refine zg_icmp_lt (tgt := 120) zd_SplitSearch_findBest_87 (by decide) (by omega) (by omega) (fun b87 => ?_) (fun b87 => ?_)
            · refine zg_inc7 zd_SplitSearch_findBest_120 (fun w h => by cases h <;> rfl) (by decide) ?_
              refine zg_goto (tgt := 45) zd_SplitSearch_findBest_123 (by decide) ?_
              exact hskip (fun q => by have q1 := q.2.1; have q2 := q.2.2; omega)
            · refine zg_al0 zd_SplitSearch_findBest_90 ?_
              refine zg_geti zd_SplitSearch_findBest_91 zf_203 (by omega) (by first | assumption | rfl) rfl ?_
              refine zg_il4 zd_SplitSearch_findBest_94 ?_
              rw [hr2]
              refine zg_icmp_lt (tgt := 120) zd_SplitSearch_findBest_96 (by decide) (by omega) (by omega) (fun b96 => ?_) (fun b96 => ?_)
              · refine zg_inc7 zd_SplitSearch_findBest_120 (fun w h => by cases h <;> rfl) (by decide) ?_
                refine zg_goto (tgt := 45) zd_SplitSearch_findBest_123 (by decide) ?_
                exact hskip (fun q => by have q1 := q.2.1; have q2 := q.2.2; omega)
              · refine zg_al0 zd_SplitSearch_findBest_99 ?_
                refine zg_il3 zd_SplitSearch_findBest_100 ?_
                refine zg_cVq1 zd_SplitSearch_findBest_101 zM_SplitSearch_measure zw_451 zi_SplitSearch_measure zs_SplitSearch_measure (ct_measure hsd (by omega) (by omega) hcr htn (show (((zx_B (zt_τ V n) cr s f t).toNat : Nat) : Int) = zx_B (zt_τ V n) cr s f t by have := zx_TB_b hT (cr := cr) hlf.1 (show zx_ok (zt_τ V n) lf s f t from ⟨by rw [hp]; exact hcut, by omega, by omega⟩); omega)) (by decide) (by decide) (by omega) (by first | assumption | rfl) (by decide) rfl (Nat.le_of_ble_eq_true rfl) ?_
                exact rest2 ⟨by rw [hp]; exact hcut, by omega, by omega⟩ _ rfl
          refine zg_il7 zd_SplitSearch_findBest_45 ?_
          refine zg_al0 zd_SplitSearch_findBest_47 ?_
          refine zg_getr zd_SplitSearch_findBest_48 zf_199 (by omega) (by first | assumption | rfl) rfl (by first | assumption | rfl) ?_
          refine zg_cVp0 zd_SplitSearch_findBest_51 zM_Limits_count zw_426 zi_Limits_count zs_Limits_count (ct_lcount (Or.inl rfl) hUd (by omega)) (by decide) (by decide) (by omega) (by first | assumption | rfl) (by decide) rfl (Nat.le_of_ble_eq_true rfl) ?_
          refine zg_icmp_ge (tgt := 126) zd_SplitSearch_findBest_54 (by decide) (by omega) (by omega) (fun b54 => ?_) (fun b54 => ?_)
          · omega
          · refine zg_al0 zd_SplitSearch_findBest_57 ?_
            refine zg_al1 zd_SplitSearch_findBest_58 ?_
            refine zg_il6 zd_SplitSearch_findBest_59 ?_
            refine zg_al1 zd_SplitSearch_findBest_61 ?_
            refine zg_il6 zd_SplitSearch_findBest_62 ?_
            refine zg_il5 zd_SplitSearch_findBest_64 ?_
            refine zg_al0 zd_SplitSearch_findBest_66 ?_
            refine zg_getr zd_SplitSearch_findBest_67 zf_199 (by omega) (by first | assumption | rfl) rfl (by first | assumption | rfl) ?_
            refine zg_il7 zd_SplitSearch_findBest_70 ?_
            refine zg_cVp1 zd_SplitSearch_findBest_72 zM_Limits_at zw_433 zi_Limits_at zs_Limits_at (ct_lat (Or.inl rfl) (by omega) (by rw [hUg]; exact hr1) (by rw [hUg]; exact hr2')) (by decide) (by decide) (by omega) (by first | assumption | rfl) (by decide) rfl (Nat.le_of_ble_eq_true rfl) ?_
            rw [show (205 : Nat) + 1 = 206 from rfl, hUg, ht]
            refine zg_cVp3 zd_SplitSearch_findBest_75 zM_Table_rowsUpTo zw_441 zi_Table_rowsUpTo zs_Table_rowsUpTo (ct_rowsUpTo hp16 (by omega) htb hTU) (by decide) (by decide) (by omega) (by first | assumption | rfl) (by decide) rfl (Nat.le_of_ble_eq_true rfl) ?_
            rw [hslU]
            refine zg_cVr3 zd_SplitSearch_findBest_78 zM_SplitSearch_weighSides zw_445 zi_SplitSearch_weighSides zs_SplitSearch_weighSides (ct_sides hp16 (hsl p f t) hTU) (by decide) (by decide) (by omega) (by first | assumption | rfl) (by decide) rfl (Nat.le_of_ble_eq_true rfl) ?_
            intro r V2 hq
            obtain ⟨rfl, h1, h2, h3, h4⟩ := hq
            refine rest V2 h1 (fun c hc => ?_) ?_ ?_
            · rw [← hX, ← hY, ← hU19, ← hU20]; exact h2 c hc
            · rw [h3, hU20, hL]
            · rw [h4, hU20, hR]
      refine zg_il5 zd_SplitSearch_findBest_12 ?_
      refine zg_iconst zd_SplitSearch_findBest_14 ?_
      refine zg_icmp_ge (tgt := 132) zd_SplitSearch_findBest_15 (by decide) (by omega) (by omega) (fun b15 => ?_) (fun b15 => ?_)
      · omega
      · refine zg_al1 zd_SplitSearch_findBest_18 ?_
        refine zg_al2 zd_SplitSearch_findBest_19 ?_
        refine zg_geti zd_SplitSearch_findBest_20 zf_118 (by omega) (by first | assumption | rfl) rfl ?_
        rw [hWs]
        refine zg_il5 zd_SplitSearch_findBest_23 ?_
        refine zg_cVp2 zd_SplitSearch_findBest_25 zM_Table_rowsPresent zw_412 zi_Table_rowsPresent zs_Table_rowsPresent (ct_rowsPresent hs (by omega) hTW) (by decide) (by decide) (by omega) (by first | assumption | rfl) (by decide) rfl (Nat.le_of_ble_eq_true rfl) ?_
        rw [hpw]
        refine zg_is6 zd_SplitSearch_findBest_28 (fun w h => by cases h <;> rfl) (by decide) ?_
        refine zg_al0 zd_SplitSearch_findBest_30 ?_
        refine zg_getr zd_SplitSearch_findBest_31 zf_199 (by omega) (by first | assumption | rfl) rfl (by first | assumption | rfl) ?_
        refine zg_al1 zd_SplitSearch_findBest_34 ?_
        refine zg_il6 zd_SplitSearch_findBest_35 ?_
        refine zg_il5 zd_SplitSearch_findBest_37 ?_
        refine zg_cVr3 zd_SplitSearch_findBest_39 zM_Limits_collect zw_417 zi_Limits_collect zs_Limits_collect (ct_lcollect (Or.inl rfl) hp16 (by omega) hTW) (by decide) (by decide) (by omega) (by first | assumption | rfl) (by decide) rfl (Nat.le_of_ble_eq_true rfl) ?_
        intro r V1 hq
        refine zg_iconst zd_SplitSearch_findBest_42 ?_
        refine zg_is7 zd_SplitSearch_findBest_43 (fun w h => by cases h <;> rfl) (by decide) ?_
        obtain ⟨rfl, h1, d, h2, h3, h4, h5⟩ := hq
        refine inner d (V1 206) h3 h4 (fun x => ?_) (d - 1) 0 V1 (by omega) (zv_on_tr hW (zv_on_mono h1 (fun b hb => by unfold zx_S; omega))) (fun j a b c => by rw [h1 _ (by omega)]; exact hWn j a b c) h2 rfl ?_
        · rw [h5 x]
          unfold zx_vl
          constructor
          · rintro ⟨r, q1, q2, q3⟩; exact ⟨r, q1, q2, by rw [← q3, hva r (by omega)]⟩
          · rintro ⟨r, q1, q2, q3⟩
            have q1' : r < n := q1
            exact ⟨r, q1, q2, by rw [← q3, hva r (by omega)]⟩
        · refine zx_bs_fr (h1 _ (by omega)) (h1 _ (by omega)) (zx_bs_iff (fun f' t' => ?_) hbs)
          constructor
          · rintro ⟨q1, q2⟩; exact ⟨q1, Or.inl q2⟩
          · rintro ⟨q1, q2 | ⟨-, i', q3, -⟩⟩
            · exact ⟨q1, q2⟩
            · omega
  have hV0o : ∀ b, b ≠ 41 + 5 * k → zf_set V (41 + 5 * k) ((0 / Nat.gcd 0 1 : Nat) : Int) ((1 / Nat.gcd 0 1 : Nat) : Int) b = V b := fun b hb => by unfold zf_set; rw [zg_u_out _ _ _ _ hb, zg_u_out _ _ _ _ hb]
  refine outer 3 0 _ _ _ (by omega) ?_ ?_ ?_ ?_
  · intro b hb
    exact hV0o b (fun e => hb (by unfold zx_S; omega))
  · intro j _ _ _
    rw [hV0o _ (by omega)]
  · refine Or.inl ⟨?_, ?_, fun f t h => by omega⟩
    · rw [show 40 + 5 * k + 1 = 41 + 5 * k by omega]
      unfold zf_set
      rw [zg_u_off _ _ _ _ (by decide), zg_u_in]
      rfl
    · rw [show 40 + 5 * k + 1 = 41 + 5 * k by omega]
      unfold zf_set
      rw [zg_u_in]
      rfl
  · intro w h; cases h
end ZT10

