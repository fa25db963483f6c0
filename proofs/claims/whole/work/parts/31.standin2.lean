/-! stand-ins: the search -/
def zy_bo (τ : zx_τ) (s f0 g : Nat) : Nat := zx_ps τ (zx_ps τ s f0) g
def zy_le (τ : zx_τ) (s f0 : Nat) (l0 : Int) (g : Nat) : Nat := zx_sl τ (zy_bo τ s f0 g) f0 l0
def zy_al (τ : zx_τ) (s f0 g : Nat) : Int := zt_w τ.2.2.1 (zy_bo τ s f0 g) τ.2.2.2
def zy_lw (τ : zx_τ) (s f0 : Nat) (l0 : Int) (g : Nat) : Int := zt_w τ.2.2.1 (zy_le τ s f0 l0 g) τ.2.2.2
def zy_fl (τ : zx_τ) (s f0 : Nat) (l0 : Int) (g : Nat) : Int := if zy_lw τ s f0 l0 g < zy_al τ s f0 g - zy_lw τ s f0 l0 g then zy_al τ s f0 g - zy_lw τ s f0 l0 g else zy_lw τ s f0 l0 g
def zy_A (τ : zx_τ) (s f0 : Nat) (l0 : Int) (g : Nat) (t : Int) : Int := zt_w τ.2.2.1 (zb_df (zy_bo τ s f0 g) (zy_le τ s f0 l0 g ^^^ zx_sl τ (zy_bo τ s f0 g) g t)) τ.2.2.2
def zy_ag (τ : zx_τ) (s f0 : Nat) (l0 : Int) (g : Nat) (t : Int) (u : Bool) : Int := if u then zy_al τ s f0 g - zy_A τ s f0 l0 g t else zy_A τ s f0 l0 g t
def zy_bs (fl : Int) (ag : Int → Bool → Int) (C : Int → Bool → Prop) (W : zg_V) : Prop :=
  (W 213 3 = fl ∧ ∀ t u, C t u → ag t u ≤ fl) ∨ ∃ (t0 : Int) (u0 : Bool), C t0 u0 ∧ fl < ag t0 u0 ∧ W 213 1 = t0 ∧ W 213 2 = zg_b u0 ∧ W 213 3 = ag t0 u0 ∧ ∀ t u, C t u → ag t u ≤ ag t0 u0 ∧ (ag t u = ag t0 u0 → t0 < t ∨ (t0 = t ∧ (u0 = false ∨ u = true)))
theorem zy_bs_iff {fl : Int} {ag : Int → Bool → Int} {C C' : Int → Bool → Prop} {W : zg_V} (h : ∀ t u, C t u ↔ C' t u) (hb : zy_bs fl ag C W) : zy_bs fl ag C' W := by
  have e : C = C' := funext fun t => funext fun u => propext (h t u)
  rw [← e]; exact hb
theorem zy_of_at (V : zg_V) (x y z : Int) : zy_of V x y z 213 1 = x ∧ zy_of V x y z 213 2 = y ∧ zy_of V x y z 213 3 = z ∧ zy_of V x y z 213 0 = V 213 0 := by
  simp [zy_of, zg_u]
theorem zy_of_o (V : zg_V) (x y z : Int) {b : Nat} (h : b ≠ 213) : zy_of V x y z b = V b := by
  unfold zy_of
  rw [zg_u_out _ _ _ _ h, zg_u_out _ _ _ _ h, zg_u_out _ _ _ _ h]
theorem zy_step {fl : Int} {ag : Int → Bool → Int} {C C' : Int → Bool → Prop} {W : zg_V} {t : Int} {u : Bool} (hb : zy_bs fl ag C W) (hC : ∀ t' u', C' t' u' ↔ C t' u' ∨ (t' = t ∧ u' = u)) (hlast : ∀ t' u', C t' u' → t' < t ∨ (t' = t ∧ u' = false ∧ u = true)) : zy_bs fl ag C' (if W 213 3 < ag t u then zy_of W t (zg_b u) (ag t u) else W) := by
  have e1 := zy_of_at W t (zg_b u) (ag t u)
  rcases hb with ⟨h1, h2⟩ | ⟨t0, u0, g1, g2, g3, g4, g5, g6⟩
  · split
    · rename_i hc
      refine Or.inr ⟨t, u, (hC t u).mpr (Or.inr ⟨rfl, rfl⟩), by omega, e1.1, e1.2.1, e1.2.2.1, fun t' u' h => ?_⟩
      rcases (hC t' u').mp h with h | ⟨rfl, rfl⟩
      · have := h2 t' u' h
        exact ⟨by omega, fun q => by omega⟩
      · refine ⟨Int.le_refl _, fun _ => Or.inr ⟨rfl, ?_⟩⟩
        cases u' <;> simp
    · rename_i hc
      refine Or.inl ⟨h1, fun t' u' h => ?_⟩
      rcases (hC t' u').mp h with h | ⟨rfl, rfl⟩
      · exact h2 t' u' h
      · omega
  · split
    · rename_i hc
      refine Or.inr ⟨t, u, (hC t u).mpr (Or.inr ⟨rfl, rfl⟩), by omega, e1.1, e1.2.1, e1.2.2.1, fun t' u' h => ?_⟩
      rcases (hC t' u').mp h with h | ⟨rfl, rfl⟩
      · have := (g6 t' u' h).1
        exact ⟨by omega, fun q => by omega⟩
      · refine ⟨Int.le_refl _, fun _ => Or.inr ⟨rfl, ?_⟩⟩
        cases u' <;> simp
    · rename_i hc
      refine Or.inr ⟨t0, u0, (hC t0 u0).mpr (Or.inl g1), g2, g3, g4, g5, fun t' u' h => ?_⟩
      rcases (hC t' u').mp h with h | ⟨rfl, rfl⟩
      · exact g6 t' u' h
      · refine ⟨by omega, fun _ => ?_⟩
        rcases hlast t0 u0 g1 with q | ⟨q1, q2, q3⟩
        · exact Or.inl q
        · exact Or.inr ⟨q1, Or.inl q2⟩
section ZT12
variable {Γ : zg_C} {V : zg_V} {k sh : Nat}
theorem ct_findAt (hk : k < 32) {s n f0 g : Nat} {l0 : Int} (hs : s < 65536) (hs0 : V (40 + 5 * k) 0 = (s : Int)) (hf0 : V (40 + 5 * k) 3 = (f0 : Int)) (hf03 : f0 < 3) (hl0 : V (40 + 5 * k) 4 = l0) (hl0b : -2147483648 ≤ l0 ∧ l0 < 2147483648) (hg : g < 3) (hT : zt_T V n) : zg_S Γ zm_StandInSearch_findAt 2 0 0 [zg_r Γ 210, zg_r Γ 1, zg_r Γ (40 + 5 * k), zg_i g] zk_K 242 (zk_P sh) V (zq_r zk_K 242 (zk_P sh) (fun rr V' => rr = some (zg_i (zg_b (decide (zy_fl (zt_τ V n) s f0 l0 g < V' 213 3)))) ∧ zv_on (fun a => a = 211 ∨ a = 212 ∨ a = 213) V V' ∧ V' 213 0 = (g : Int) ∧ zy_bs (zy_fl (zt_τ V n) s f0 l0 g) (zy_ag (zt_τ V n) s f0 l0 g) (fun t _ => zx_cut (zt_τ V n) (zy_bo (zt_τ V n) s f0 g) g t) V')) := by
  obtain ⟨hkn, -⟩ := zk_node k hk
  have hn16 := hT.2.1
  have p0 : zt_pres (zt_va V) s f0 n < 65536 := zt_mk16 hn16
  have p1 : zy_bo (zt_τ V n) s f0 g < 65536 := zt_mk16 hn16
  have p2 : zy_le (zt_τ V n) s f0 l0 g < 65536 := zt_mk16 hn16
  have hal : 0 ≤ zy_al (zt_τ V n) s f0 g ∧ zy_al (zt_τ V n) s f0 g ≤ 16 := zt_w_16 hT _
  have hlw : 0 ≤ zy_lw (zt_τ V n) s f0 l0 g ∧ zy_lw (zt_τ V n) s f0 l0 g ≤ 16 := zt_w_16 hT _
  have hfl : -16 ≤ zy_fl (zt_τ V n) s f0 l0 g ∧ zy_fl (zt_τ V n) s f0 l0 g ≤ 16 := by unfold zy_fl; split <;> omega
  have hA : ∀ t, 0 ≤ zy_A (zt_τ V n) s f0 l0 g t ∧ zy_A (zt_τ V n) s f0 l0 g t ≤ 16 := fun t => zt_w_16 hT _
  have hdf : ∀ x, zb_df (zy_bo (zt_τ V n) s f0 g) x < 65536 := fun x => by
    apply Nat.lt_pow_two_of_testBit (n := 16)
    intro i hi
    have h16 : zy_bo (zt_τ V n) s f0 g < 2 ^ 16 := p1
    rw [zb_df_bit, Nat.testBit_lt_two_pow (Nat.lt_of_lt_of_le h16 (Nat.pow_le_pow_right (n := 2) (by decide) hi))]
    rfl
  have hvb : ∀ C W, zy_bs (zy_fl (zt_τ V n) s f0 l0 g) (zy_ag (zt_τ V n) s f0 l0 g) C W → -32 ≤ W 213 3 ∧ W 213 3 ≤ 32 := by
    intro C W hb
    rcases hb with ⟨h1, h2⟩ | ⟨t0, u0, g1, g2, g3, g4, g5, g6⟩
    · omega
    · have := hA t0
      rw [g5]
      unfold zy_ag
      split <;> omega
  generalize hQ : zq_r zk_K 242 (zk_P sh) (fun rr V' => rr = some (zg_i (zg_b (decide (zy_fl (zt_τ V n) s f0 l0 g < V' 213 3)))) ∧ zv_on (fun a => a = 211 ∨ a = 212 ∨ a = 213) V V' ∧ V' 213 0 = (g : Int) ∧ zy_bs (zy_fl (zt_τ V n) s f0 l0 g) (zy_ag (zt_τ V n) s f0 l0 g) (fun t _ => zx_cut (zt_τ V n) (zy_bo (zt_τ V n) s f0 g) g t) V') = Q
  refine zg_enter 9 (by decide) (Nat.le_of_ble_eq_true rfl) rfl ?_
  generalize hbo : zy_bo (zt_τ V n) s f0 g = bo at *
  generalize hle : zy_le (zt_τ V n) s f0 l0 g = le at *
  refine zg_al1 zd_StandInSearch_findAt_0 ?_
  refine zg_al1 zd_StandInSearch_findAt_1 ?_
  refine zg_al2 zd_StandInSearch_findAt_2 ?_
  refine zg_geti zd_StandInSearch_findAt_3 zf_119 (by omega) (by first | assumption | rfl) rfl ?_
  rw [hs0]
  refine zg_al2 zd_StandInSearch_findAt_6 ?_
  refine zg_geti zd_StandInSearch_findAt_7 zf_126 (by omega) (by first | assumption | rfl) rfl ?_
  rw [hf0]
  refine zg_cVp2 zd_StandInSearch_findAt_10 zM_Table_rowsPresent zw_491 zi_Table_rowsPresent zs_Table_rowsPresent (ct_rowsPresent hs hf03 hT) (by decide) (by decide) (by omega) (by first | assumption | rfl) (by decide) rfl (Nat.le_of_ble_eq_true rfl) ?_
  refine zg_il3 zd_StandInSearch_findAt_13 ?_
  refine zg_cVp2 zd_StandInSearch_findAt_14 zM_Table_rowsPresent zw_491 zi_Table_rowsPresent zs_Table_rowsPresent (ct_rowsPresent p0 hg hT) (by decide) (by decide) (by omega) (by first | assumption | rfl) (by decide) rfl (Nat.le_of_ble_eq_true rfl) ?_
  rw [show zt_pres (zt_va V) (zt_pres (zt_va V) s f0 n) g n = bo from hbo]
  refine zg_is4 zd_StandInSearch_findAt_17 (fun w h => by cases h <;> rfl) (by decide) ?_
  refine zg_al1 zd_StandInSearch_findAt_19 ?_
  refine zg_il4 zd_StandInSearch_findAt_20 ?_
  refine zg_al2 zd_StandInSearch_findAt_22 ?_
  refine zg_geti zd_StandInSearch_findAt_23 zf_126 (by omega) (by first | assumption | rfl) rfl ?_
  rw [hf0]
  refine zg_al2 zd_StandInSearch_findAt_26 ?_
  refine zg_geti zd_StandInSearch_findAt_27 zf_130 (by omega) (by first | assumption | rfl) rfl ?_
  rw [hl0]
  refine zg_cVp3 zd_StandInSearch_findAt_30 zM_Table_rowsUpTo zw_492 zi_Table_rowsUpTo zs_Table_rowsUpTo (ct_rowsUpTo p1 hf03 hl0b hT) (by decide) (by decide) (by omega) (by first | assumption | rfl) (by decide) rfl (Nat.le_of_ble_eq_true rfl) ?_
  rw [show zt_upto (zt_va V) bo f0 l0 n = le by rw [← hle, ← hbo]; rfl]
  refine zg_is5 zd_StandInSearch_findAt_33 (fun w h => by cases h <;> rfl) (by decide) ?_
  refine zg_al1 zd_StandInSearch_findAt_35 ?_
  refine zg_il4 zd_StandInSearch_findAt_36 ?_
  refine zg_cVp1 zd_StandInSearch_findAt_38 zM_Table_weightOf zw_493 zi_Table_weightOf zs_Table_weightOf (ct_weightOf p1 hT) (by decide) (by decide) (by omega) (by first | assumption | rfl) (by decide) rfl (Nat.le_of_ble_eq_true rfl) ?_
  rw [show zt_w (V 20) bo n = zy_al (zt_τ V n) s f0 g by rw [← hbo]; rfl]
  refine zg_is6 zd_StandInSearch_findAt_41 (fun w h => by cases h <;> rfl) (by decide) ?_
  refine zg_al1 zd_StandInSearch_findAt_43 ?_
  refine zg_il5 zd_StandInSearch_findAt_44 ?_
  refine zg_cVp1 zd_StandInSearch_findAt_46 zM_Table_weightOf zw_493 zi_Table_weightOf zs_Table_weightOf (ct_weightOf p2 hT) (by decide) (by decide) (by omega) (by first | assumption | rfl) (by decide) rfl (Nat.le_of_ble_eq_true rfl) ?_
  rw [show zt_w (V 20) le n = zy_lw (zt_τ V n) s f0 l0 g by rw [← hle]; rfl]
  refine zg_is7 zd_StandInSearch_findAt_49 (fun w h => by cases h <;> rfl) (by decide) ?_
  refine zg_il7 zd_StandInSearch_findAt_51 ?_
  refine zg_il6 zd_StandInSearch_findAt_53 ?_
  refine zg_il7 zd_StandInSearch_findAt_55 ?_
  refine zg_isub zd_StandInSearch_findAt_57 ?_
  refine zg_cSp2 zd_StandInSearch_findAt_58 zM_Math_max zw_494 zi_Math_max (ct_max (by omega) (by omega)) (by decide) (by decide) (Nat.le_of_ble_eq_true rfl) ?_
  rw [show (if zy_lw (zt_τ V n) s f0 l0 g < zy_al (zt_τ V n) s f0 g - zy_lw (zt_τ V n) s f0 l0 g then zy_al (zt_τ V n) s f0 g - zy_lw (zt_τ V n) s f0 l0 g else zy_lw (zt_τ V n) s f0 l0 g) = zy_fl (zt_τ V n) s f0 l0 g from rfl]
  refine zg_is8 zd_StandInSearch_findAt_61 (fun w h => by cases h <;> rfl) (by decide) ?_
  refine zg_al0 zd_StandInSearch_findAt_63 ?_
  refine zg_getr zd_StandInSearch_findAt_64 zf_229 (by omega) (by first | assumption | rfl) rfl (by first | assumption | rfl) ?_
  refine zg_il3 zd_StandInSearch_findAt_67 ?_
  refine zg_puti zd_StandInSearch_findAt_68 zf_98 rfl (by omega) (by first | assumption | rfl) rfl ?_
  refine zg_al0 zd_StandInSearch_findAt_71 ?_
  refine zg_getr zd_StandInSearch_findAt_72 zf_229 (by omega) (by first | assumption | rfl) rfl (by first | assumption | rfl) ?_
  refine zg_il8 zd_StandInSearch_findAt_75 ?_
  refine zg_puti zd_StandInSearch_findAt_77 zf_106 rfl (by omega) (by first | assumption | rfl) rfl ?_
  skip
  generalize hV1 : zg_u (zg_u V 213 0 (g : Int)) 213 3 (zy_fl (zt_τ V n) s f0 l0 g) = V1
  have hV1o : ∀ b, b ≠ 213 → V1 b = V b := fun b hb => by rw [← hV1, zg_u_out _ _ _ _ hb, zg_u_out _ _ _ _ hb]
  have hTV1 : zt_T V1 n := zt_T_fr (fun b hb => hV1o b (by omega)) hT
  sorry
end ZT12

