/-! stand-ins: the search -/
def zy_bo (τ : zx_τ) (s f0 g : Nat) : Nat := zx_ps τ (zx_ps τ s f0) g
def zy_le (τ : zx_τ) (s f0 : Nat) (l0 : Int) (g : Nat) : Nat := zx_sl τ (zy_bo τ s f0 g) f0 l0
def zy_al (τ : zx_τ) (s f0 g : Nat) : Int := zt_w τ.2.2.1 (zy_bo τ s f0 g) τ.2.2.2
def zy_lw (τ : zx_τ) (s f0 : Nat) (l0 : Int) (g : Nat) : Int := zt_w τ.2.2.1 (zy_le τ s f0 l0 g) τ.2.2.2
def zy_fl (τ : zx_τ) (s f0 : Nat) (l0 : Int) (g : Nat) : Int := if zy_lw τ s f0 l0 g < zy_al τ s f0 g - zy_lw τ s f0 l0 g then zy_al τ s f0 g - zy_lw τ s f0 l0 g else zy_lw τ s f0 l0 g
def zy_A (τ : zx_τ) (s f0 : Nat) (l0 : Int) (g : Nat) (t : Int) : Int := zt_w τ.2.2.1 (zb_df (zy_bo τ s f0 g) (zy_le τ s f0 l0 g ^^^ zx_sl τ (zy_bo τ s f0 g) g t)) τ.2.2.2
def zy_ag (τ : zx_τ) (s f0 : Nat) (l0 : Int) (g : Nat) (t : Int) (u : Bool) : Int := if u then zy_al τ s f0 g - zy_A τ s f0 l0 g t else zy_A τ s f0 l0 g t
def zy_bs (fl : Int) (ag : Int → Bool → Int) (C : Int → Bool → Prop) (W : zg_V) : Prop :=
  (W 213 3 = fl ∧ ∀ t u, C t u → ag t u ≤ fl) ∨ ∃ (t0 : Int) (u0 : Bool), C t0 u0 ∧ fl < ag t0 u0 ∧ W 213 1 = t0 ∧ W 213 2 = zg_b u0 ∧ W 213 3 = ag t0 u0 ∧ ∀ t u, C t u → ag t u ≤ ag t0 u0 ∧ (ag t u = ag t0 u0 → t0 < t ∨ (t0 = t ∧ (u0 = false ∨ u = true)))
theorem zy_bs_iff {fl : Int} {ag : Int → Bool → Int} {C C' : Int → Bool → Prop} {W : zg_V} (h : ∀ t u, C t u ↔ C' t u) (hb : zy_bs fl ag C W) : zy_bs fl ag C' W := by
  have e : C = C' := funext fun t => funext fun u => propext (h t u)
  rw [← e]; exact hb
theorem zy_of_at (V : zg_V) (x y z : Int) : zy_of V x y z 213 1 = x ∧ zy_of V x y z 213 2 = y ∧ zy_of V x y z 213 3 = z ∧ zy_of V x y z 213 0 = V 213 0 := by
  simp [zy_of, zg_u]
theorem zy_of_o (V : zg_V) (x y z : Int) {b : Nat} (h : b ≠ 213) : zy_of V x y z b = V b := by
  unfold zy_of
  rw [zg_u_out _ _ _ _ h, zg_u_out _ _ _ _ h, zg_u_out _ _ _ _ h]
theorem zy_step {fl : Int} {ag : Int → Bool → Int} {C C' : Int → Bool → Prop} {W : zg_V} {t : Int} {u : Bool} (hb : zy_bs fl ag C W) (hC : ∀ t' u', C' t' u' ↔ C t' u' ∨ (t' = t ∧ u' = u)) (hlast : ∀ t' u', C t' u' → t' < t ∨ (t' = t ∧ u' = false ∧ u = true)) : zy_bs fl ag C' (if W 213 3 < ag t u then zy_of W t (zg_b u) (ag t u) else W) := by
  have e1 := zy_of_at W t (zg_b u) (ag t u)
  rcases hb with ⟨h1, h2⟩ | ⟨t0, u0, g1, g2, g3, g4, g5, g6⟩
  · split
    · rename_i hc
      refine Or.inr ⟨t, u, (hC t u).mpr (Or.inr ⟨rfl, rfl⟩), by omega, e1.1, e1.2.1, e1.2.2.1, fun t' u' h => ?_⟩
      rcases (hC t' u').mp h with h | ⟨rfl, rfl⟩
      · have := h2 t' u' h
        exact ⟨by omega, fun q => by omega⟩
      · refine ⟨Int.le_refl _, fun _ => Or.inr ⟨rfl, ?_⟩⟩
        cases u' <;> simp
    · rename_i hc
      refine Or.inl ⟨h1, fun t' u' h => ?_⟩
      rcases (hC t' u').mp h with h | ⟨rfl, rfl⟩
      · exact h2 t' u' h
      · omega
  · split
    · rename_i hc
      refine Or.inr ⟨t, u, (hC t u).mpr (Or.inr ⟨rfl, rfl⟩), by omega, e1.1, e1.2.1, e1.2.2.1, fun t' u' h => ?_⟩
      rcases (hC t' u').mp h with h | ⟨rfl, rfl⟩
      · have := (g6 t' u' h).1
        exact ⟨by omega, fun q => by omega⟩
      · refine ⟨Int.le_refl _, fun _ => Or.inr ⟨rfl, ?_⟩⟩
        cases u' <;> simp
    · rename_i hc
      refine Or.inr ⟨t0, u0, (hC t0 u0).mpr (Or.inl g1), g2, g3, g4, g5, fun t' u' h => ?_⟩
      rcases (hC t' u').mp h with h | ⟨rfl, rfl⟩
      · exact g6 t' u' h
      · refine ⟨by omega, fun _ => ?_⟩
        rcases hlast t0 u0 g1 with q | ⟨q1, q2, q3⟩
        · exact Or.inl q
        · exact Or.inr ⟨q1, Or.inl q2⟩
section ZT12
variable {Γ : zg_C} {V : zg_V} {k sh : Nat}
theorem ct_findAt (hk : k < 32) {s n f0 g : Nat} {l0 : Int} (hs : s < 65536) (hs0 : V (40 + 5 * k) 0 = (s : Int)) (hf0 : V (40 + 5 * k) 3 = (f0 : Int)) (hf03 : f0 < 3) (hl0 : V (40 + 5 * k) 4 = l0) (hl0b : -2147483648 ≤ l0 ∧ l0 < 2147483648) (hg : g < 3) (hT : zt_T V n) : zg_S Γ zm_StandInSearch_findAt 2 0 0 [zg_r Γ 210, zg_r Γ 1, zg_r Γ (40 + 5 * k), zg_i g] zk_K 242 (zk_P sh) V (zq_r zk_K 242 (zk_P sh) (fun rr V' => rr = some (zg_i (zg_b (decide (zy_fl (zt_τ V n) s f0 l0 g < V' 213 3)))) ∧ zv_on (fun a => a = 211 ∨ a = 212 ∨ a = 213) V V' ∧ V' 213 0 = (g : Int) ∧ zy_bs (zy_fl (zt_τ V n) s f0 l0 g) (zy_ag (zt_τ V n) s f0 l0 g) (fun t _ => zx_cut (zt_τ V n) (zy_bo (zt_τ V n) s f0 g) g t) V')) := by
  obtain ⟨hkn, -⟩ := zk_node k hk
  have hn16 := hT.2.1
  have p0 : zt_pres (zt_va V) s f0 n < 65536 := zt_mk16 hn16
  have p1 : zy_bo (zt_τ V n) s f0 g < 65536 := zt_mk16 hn16
  have p2 : zy_le (zt_τ V n) s f0 l0 g < 65536 := zt_mk16 hn16
  have hal : 0 ≤ zy_al (zt_τ V n) s f0 g ∧ zy_al (zt_τ V n) s f0 g ≤ 16 := zt_w_16 hT _
  have hlw : 0 ≤ zy_lw (zt_τ V n) s f0 l0 g ∧ zy_lw (zt_τ V n) s f0 l0 g ≤ 16 := zt_w_16 hT _
  have hfl : -16 ≤ zy_fl (zt_τ V n) s f0 l0 g ∧ zy_fl (zt_τ V n) s f0 l0 g ≤ 16 := by unfold zy_fl; split <;> omega
  have hA : ∀ t, 0 ≤ zy_A (zt_τ V n) s f0 l0 g t ∧ zy_A (zt_τ V n) s f0 l0 g t ≤ 16 := fun t => zt_w_16 hT _
  have hdf : ∀ x, zb_df (zy_bo (zt_τ V n) s f0 g) x < 65536 := fun x => by
    apply Nat.lt_pow_two_of_testBit (n := 16)
    intro i hi
    have h16 : zy_bo (zt_τ V n) s f0 g < 2 ^ 16 := p1
    rw [zb_df_bit, Nat.testBit_lt_two_pow (Nat.lt_of_lt_of_le h16 (Nat.pow_le_pow_right (n := 2) (by decide) hi))]
    rfl
  have hvb : ∀ C W, zy_bs (zy_fl (zt_τ V n) s f0 l0 g) (zy_ag (zt_τ V n) s f0 l0 g) C W → -32 ≤ W 213 3 ∧ W 213 3 ≤ 32 := by
    intro C W hb
    rcases hb with ⟨h1, h2⟩ | ⟨t0, u0, g1, g2, g3, g4, g5, g6⟩
    · omega
    · have := hA t0
      rw [g5]
      unfold zy_ag
      split <;> omega
  generalize hQ : zq_r zk_K 242 (zk_P sh) (fun rr V' => rr = some (zg_i (zg_b (decide (zy_fl (zt_τ V n) s f0 l0 g < V' 213 3)))) ∧ zv_on (fun a => a = 211 ∨ a = 212 ∨ a = 213) V V' ∧ V' 213 0 = (g : Int) ∧ zy_bs (zy_fl (zt_τ V n) s f0 l0 g) (zy_ag (zt_τ V n) s f0 l0 g) (fun t _ => zx_cut (zt_τ V n) (zy_bo (zt_τ V n) s f0 g) g t) V') = Q
  refine zg_enter 9 (by decide) (Nat.le_of_ble_eq_true rfl) rfl ?_
  generalize hbo : zy_bo (zt_τ V n) s f0 g = bo at *
  generalize hle : zy_le (zt_τ V n) s f0 l0 g = le at *
  refine zg_al1 zd_StandInSearch_findAt_0 ?_
  refine zg_al1 zd_StandInSearch_findAt_1 ?_
  refine zg_al2 zd_StandInSearch_findAt_2 ?_
  refine zg_geti zd_StandInSearch_findAt_3 zf_119 (by omega) (by first | assumption | rfl) rfl ?_
  rw [hs0]
  refine zg_al2 zd_StandInSearch_findAt_6 ?_
  refine zg_geti zd_StandInSearch_findAt_7 zf_126 (by omega) (by first | assumption | rfl) rfl ?_
  rw [hf0]
  refine zg_cVp2 zd_StandInSearch_findAt_10 zM_Table_rowsPresent zw_491 zi_Table_rowsPresent zs_Table_rowsPresent (ct_rowsPresent hs hf03 hT) (by decide) (by decide) (by omega) (by first | assumption | rfl) (by decide) rfl (Nat.le_of_ble_eq_true rfl) ?_
  refine zg_il3 zd_StandInSearch_findAt_13 ?_
  refine zg_cVp2 zd_StandInSearch_findAt_14 zM_Table_rowsPresent zw_491 zi_Table_rowsPresent zs_Table_rowsPresent (ct_rowsPresent p0 hg hT) (by decide) (by decide) (by omega) (by first | assumption | rfl) (by decide) rfl (Nat.le_of_ble_eq_true rfl) ?_
  rw [show zt_pres (zt_va V) (zt_pres (zt_va V) s f0 n) g n = bo from hbo]
  refine zg_is4 zd_StandInSearch_findAt_17 (fun w h => by cases h <;> rfl) (by decide) ?_
  refine zg_al1 zd_StandInSearch_findAt_19 ?_
  refine zg_il4 zd_StandInSearch_findAt_20 ?_
  refine zg_al2 zd_StandInSearch_findAt_22 ?_
  refine zg_geti zd_StandInSearch_findAt_23 zf_126 (by omega) (by first | assumption | rfl) rfl ?_
  rw [hf0]
  refine zg_al2 zd_StandInSearch_findAt_26 ?_
  refine zg_geti zd_StandInSearch_findAt_27 zf_130 (by omega) (by first | assumption | rfl) rfl ?_
  rw [hl0]
  refine zg_cVp3 zd_StandInSearch_findAt_30 zM_Table_rowsUpTo zw_492 zi_Table_rowsUpTo zs_Table_rowsUpTo (ct_rowsUpTo p1 hf03 hl0b hT) (by decide) (by decide) (by omega) (by first | assumption | rfl) (by decide) rfl (Nat.le_of_ble_eq_true rfl) ?_
  rw [show zt_upto (zt_va V) bo f0 l0 n = le by rw [← hle, ← hbo]; rfl]
  refine zg_is5 zd_StandInSearch_findAt_33 (fun w h => by cases h <;> rfl) (by decide) ?_
  refine zg_al1 zd_StandInSearch_findAt_35 ?_
  refine zg_il4 zd_StandInSearch_findAt_36 ?_
  refine zg_cVp1 zd_StandInSearch_findAt_38 zM_Table_weightOf zw_493 zi_Table_weightOf zs_Table_weightOf (ct_weightOf p1 hT) (by decide) (by decide) (by omega) (by first | assumption | rfl) (by decide) rfl (Nat.le_of_ble_eq_true rfl) ?_
  rw [show zt_w (V 20) bo n = zy_al (zt_τ V n) s f0 g by rw [← hbo]; rfl]
  refine zg_is6 zd_StandInSearch_findAt_41 (fun w h => by cases h <;> rfl) (by decide) ?_
  refine zg_al1 zd_StandInSearch_findAt_43 ?_
  refine zg_il5 zd_StandInSearch_findAt_44 ?_
  refine zg_cVp1 zd_StandInSearch_findAt_46 zM_Table_weightOf zw_493 zi_Table_weightOf zs_Table_weightOf (ct_weightOf p2 hT) (by decide) (by decide) (by omega) (by first | assumption | rfl) (by decide) rfl (Nat.le_of_ble_eq_true rfl) ?_
  rw [show zt_w (V 20) le n = zy_lw (zt_τ V n) s f0 l0 g by rw [← hle]; rfl]
  refine zg_is7 zd_StandInSearch_findAt_49 (fun w h => by cases h <;> rfl) (by decide) ?_
  refine zg_il7 zd_StandInSearch_findAt_51 ?_
  refine zg_il6 zd_StandInSearch_findAt_53 ?_
  refine zg_il7 zd_StandInSearch_findAt_55 ?_
  refine zg_isub zd_StandInSearch_findAt_57 ?_
  refine zg_cSp2 zd_StandInSearch_findAt_58 zM_Math_max zw_494 zi_Math_max (ct_max (by omega) (by omega)) (by decide) (by decide) (Nat.le_of_ble_eq_true rfl) ?_
  rw [show (if zy_lw (zt_τ V n) s f0 l0 g < zy_al (zt_τ V n) s f0 g - zy_lw (zt_τ V n) s f0 l0 g then zy_al (zt_τ V n) s f0 g - zy_lw (zt_τ V n) s f0 l0 g else zy_lw (zt_τ V n) s f0 l0 g) = zy_fl (zt_τ V n) s f0 l0 g from rfl]
  refine zg_is8 zd_StandInSearch_findAt_61 (fun w h => by cases h <;> rfl) (by decide) ?_
  refine zg_al0 zd_StandInSearch_findAt_63 ?_
  refine zg_getr zd_StandInSearch_findAt_64 zf_229 (by omega) (by first | assumption | rfl) rfl (by first | assumption | rfl) ?_
  refine zg_il3 zd_StandInSearch_findAt_67 ?_
  refine zg_puti zd_StandInSearch_findAt_68 zf_98 rfl (by omega) (by first | assumption | rfl) rfl ?_
  refine zg_al0 zd_StandInSearch_findAt_71 ?_
  refine zg_getr zd_StandInSearch_findAt_72 zf_229 (by omega) (by first | assumption | rfl) rfl (by first | assumption | rfl) ?_
  refine zg_il8 zd_StandInSearch_findAt_75 ?_
  refine zg_puti zd_StandInSearch_findAt_77 zf_106 rfl (by omega) (by first | assumption | rfl) rfl ?_
  skip
  generalize hV1 : zg_u (zg_u V 213 0 (g : Int)) 213 3 (zy_fl (zt_τ V n) s f0 l0 g) = V1
  have hV1o : ∀ b, b ≠ 213 → V1 b = V b := fun b hb => by rw [← hV1, zg_u_out _ _ _ _ hb, zg_u_out _ _ _ _ hb]
  have hTV1 : zt_T V1 n := zt_T_fr (fun b hb => hV1o b (by omega)) hT
  have hV10 : V1 213 0 = (g : Int) := by rw [← hV1, zg_u_off _ _ _ _ (by decide), zg_u_in]
  have hV13 : V1 213 3 = zy_fl (zt_τ V n) s f0 l0 g := by rw [← hV1, zg_u_in]
  have hfin : ∀ (o : List (Option Value)) (W : zg_V) (hW : zv_on (fun a => a = 211 ∨ a = 212 ∨ a = 213) V W) (hW0 : W 213 0 = (g : Int)) (hb : zy_bs (zy_fl (zt_τ V n) s f0 l0 g) (zy_ag (zt_τ V n) s f0 l0 g) (fun t _ => zx_cut (zt_τ V n) bo g t) W) (o9 o10 o11 o12 : Option Value), zg_G Γ (fun _ => True) zm_StandInSearch_findAt (zg_rm 2 0 0) (zg_Ω Γ (Q) 0 0) 0 0 171 [some (zg_r Γ (210)), some (zg_r Γ (1)), some (zg_r Γ (40 + 5 * k)), some (zg_i (g)), some (zg_i (bo)), some (zg_i (le)), some (zg_i (zy_al (zt_τ V n) s f0 g)), some (zg_i (zy_lw (zt_τ V n) s f0 l0 g)), some (zg_i (zy_fl (zt_τ V n) s f0 l0 g)), o9, o10, o11, o12] [] zk_K 242 (zk_P sh) (W) := by
    intro o W hW hW0 hb o9 o10 o11 o12
    have hv := hvb _ W hb
    refine zg_al0 zd_StandInSearch_findAt_171 ?_
    refine zg_getr zd_StandInSearch_findAt_172 zf_229 (by omega) (by first | assumption | rfl) rfl (by first | assumption | rfl) ?_
    refine zg_geti zd_StandInSearch_findAt_175 zf_106 (by omega) (by first | assumption | rfl) rfl ?_
    refine zg_il8 zd_StandInSearch_findAt_178 ?_
    refine zg_icmp_le (tgt := 187) zd_StandInSearch_findAt_180 (by decide) (by omega) (by omega) (fun b180 => ?_) (fun b180 => ?_)
    · refine zg_iconst zd_StandInSearch_findAt_187 ?_
      refine zg_zreturn zd_StandInSearch_findAt_188 rfl (by omega) ?_
      subst hQ
      exact ⟨rfl, rfl, rfl, by rw [zg_b_eq]; simp; omega, hW, hW0, hb⟩
    · refine zg_iconst zd_StandInSearch_findAt_183 ?_
      refine zg_goto (tgt := 188) zd_StandInSearch_findAt_184 (by decide) ?_
      refine zg_zreturn zd_StandInSearch_findAt_188 rfl (by omega) ?_
      subst hQ
      exact ⟨rfl, rfl, rfl, by rw [zg_b_eq]; simp; omega, hW, hW0, hb⟩
  have inner : ∀ (d : Nat) (q : Nat → Int) (hd : d ≤ n) (hS : zl_S q d) (hin : ∀ x, zl_in q d x ↔ zx_vl (zt_τ V n) bo g x) (j i : Nat) (U : zg_V) (o10 o11 o12 : Option Value) (hij : i + j = d - 1) (hU : zv_on (fun a => a = 211 ∨ a = 212 ∨ a = 213) V U) (hU0 : U 213 0 = (g : Int)) (hUd : U 211 1 = (d : Int)) (hUg : U 212 = q)
      (hbs : zy_bs (zy_fl (zt_τ V n) s f0 l0 g) (zy_ag (zt_τ V n) s f0 l0 g) (fun t _ => ∃ i', i' < i ∧ t = (q i' + q (i' + 1)) / 2) U) (ho10 : ∀ w, o10 = some w → w.category = 1) (ho11 : ∀ w, o11 = some w → w.category = 1), zg_G Γ (fun _ => True) zm_StandInSearch_findAt (zg_rm 2 0 0) (zg_Ω Γ (Q) 0 0) 0 0 94 [some (zg_r Γ (210)), some (zg_r Γ (1)), some (zg_r Γ (40 + 5 * k)), some (zg_i (g)), some (zg_i (bo)), some (zg_i (le)), some (zg_i (zy_al (zt_τ V n) s f0 g)), some (zg_i (zy_lw (zt_τ V n) s f0 l0 g)), some (zg_i (zy_fl (zt_τ V n) s f0 l0 g)), some (zg_i ((i : Nat))), o10, o11, o12] [] zk_K 242 (zk_P sh) (U) := by
    intro d q hd hS hin j
    induction j with
    | zero =>
      intro i U o10 o11 o12 hij hU hU0 hUd hUg hbs ho10 ho11
      have e : i = d - 1 := by omega
      subst e
      have hb2 := zy_bs_iff (C' := fun t _ => zx_cut (zt_τ V n) bo g t) (fun t u => by
        rw [zx_cut_l hS hin t]
        constructor
        · rintro ⟨i', q1, q2⟩; exact ⟨i', by omega, q2⟩
        · rintro ⟨i', q1, q2⟩; exact ⟨i', by omega, q2⟩) hbs
      refine zg_il9 zd_StandInSearch_findAt_94 ?_
      refine zg_al0 zd_StandInSearch_findAt_96 ?_
      refine zg_getr zd_StandInSearch_findAt_97 zf_228 (by omega) (by first | assumption | rfl) rfl (by first | assumption | rfl) ?_
      refine zg_cVp0 zd_StandInSearch_findAt_100 zM_Limits_count zw_496 zi_Limits_count zs_Limits_count (ct_lcount (Or.inr rfl) hUd (by omega)) (by decide) (by decide) (by omega) (by first | assumption | rfl) (by decide) rfl (Nat.le_of_ble_eq_true rfl) ?_
      refine zg_icmp_ge (tgt := 171) zd_StandInSearch_findAt_103 (by decide) (by omega) (by omega) (fun b103 => ?_) (fun b103 => ?_)
      · exact hfin [] U hU hU0 hb2 _ _ _ _
      · omega
    | succ j ih =>
      intro i U o10 o11 o12 hij hU hU0 hUd hUg hbs ho10 ho11
      have hi1 : i + 1 < d := by omega
      have hTU : zt_T U n := zt_T_fr (fun b hb => hU b (by omega)) hT
      have hUva : ∀ r, r < 16 → U (3 + r) = V (3 + r) := fun r hr => hU (3 + r) (by omega)
      have hU20 : U 20 = V 20 := hU 20 (by omega)
      generalize ht : (q i + q (i + 1)) / 2 = t
      have htb : -2147483648 ≤ t ∧ t < 2147483648 := by rw [← ht]; exact zx_cut_b hS hi1
      have hr1 := hS.2 i (by omega)
      have hr2 := hS.2 (i + 1) hi1
      have hsU : zt_upto (zt_va U) bo g t n = zx_sl (zt_τ V n) bo g t := zt_upto_congr (fun r hr => hUva r (by omega)) bo g t
      have hAU : zt_w (V 20) (zb_df bo (le ^^^ zx_sl (zt_τ V n) bo g t)) n = zy_A (zt_τ V n) s f0 l0 g t := by rw [← hle, ← hbo]; rfl
      have hAt := hA t
      have hv := hvb _ U hbs
      have hlast : ∀ t' (u' : Bool), (∃ i', i' < i ∧ t' = (q i' + q (i' + 1)) / 2) → t' < t := by
        rintro t' u' ⟨i', q1, q2⟩
        rw [q2, ← ht]
        exact zx_cut_lt hS q1 hi1
      have s1 := zy_step (C' := fun t' u' => (∃ i', i' < i ∧ t' = (q i' + q (i' + 1)) / 2) ∨ (t' = t ∧ u' = false)) (t := t) (u := false) hbs (fun t' u' => Iff.rfl) (fun t' u' h => Or.inl (hlast t' u' h))
      generalize hU1 : (if U 213 3 < zy_ag (zt_τ V n) s f0 l0 g t false then zy_of U t (zg_b false) (zy_ag (zt_τ V n) s f0 l0 g t false) else U) = U1 at s1
      have hU1o : ∀ b, b ≠ 213 → U1 b = U b := fun b hb => by rw [← hU1]; split <;> first | rfl | exact zy_of_o _ _ _ _ hb
      have hU10 : U1 213 0 = (g : Int) := by rw [← hU1]; split <;> first | exact hU0 | (rw [(zy_of_at _ _ _ _).2.2.2]; exact hU0)
      have hv1 := hvb _ U1 s1
      have s2 := zy_step (C' := fun t' u' => ∃ i', i' < i + 1 ∧ t' = (q i' + q (i' + 1)) / 2) (t := t) (u := true) s1 (fun t' u' => by
        constructor
        · rintro ⟨i', q1, q2⟩
          by_cases e : i' = i
          · subst e
            rw [ht] at q2
            cases u'
            · exact Or.inl (Or.inr ⟨q2, rfl⟩)
            · exact Or.inr ⟨q2, rfl⟩
          · exact Or.inl (Or.inl ⟨i', by omega, q2⟩)
        · rintro ((⟨i', q1, q2⟩ | ⟨q1, -⟩) | ⟨q1, -⟩)
          · exact ⟨i', by omega, q2⟩
          · exact ⟨i, by omega, by rw [q1, ht]⟩
          · exact ⟨i, by omega, by rw [q1, ht]⟩) (fun t' u' h => by
        rcases h with h | ⟨q1, q2⟩
        · exact Or.inl (hlast t' u' h)
        · exact Or.inr ⟨q1, q2, rfl⟩)
      generalize hU2 : (if U1 213 3 < zy_ag (zt_τ V n) s f0 l0 g t true then zy_of U1 t (zg_b true) (zy_ag (zt_τ V n) s f0 l0 g t true) else U1) = U2 at s2
      have hU2o : ∀ b, b ≠ 213 → U2 b = U b := fun b hb => by
        rw [← hU1o b hb, ← hU2]; split <;> first | rfl | exact zy_of_o _ _ _ _ hb
      have hU20' : U2 213 0 = (g : Int) := by rw [← hU2]; split <;> first | exact hU10 | (rw [(zy_of_at _ _ _ _).2.2.2]; exact hU10)
      have ih := ih (i + 1) U2 (some (zg_i t)) (some (zg_i (zb_df bo (le ^^^ zx_sl (zt_τ V n) bo g t) : Nat))) (some (zg_i (zy_A (zt_τ V n) s f0 l0 g t))) (by omega) (fun b hb => by rw [hU2o b (by omega)]; exact hU b hb) hU20' (by rw [hU2o _ (by decide)]; exact hUd) (by rw [hU2o _ (by decide)]; exact hUg) s2 (fun w hw => by cases hw; rfl) (fun w hw => by cases hw; rfl)
      refine zg_il9 zd_StandInSearch_findAt_94 ?_
      refine zg_al0 zd_StandInSearch_findAt_96 ?_
      refine zg_getr zd_StandInSearch_findAt_97 zf_228 (by omega) (by first | assumption | rfl) rfl (by first | assumption | rfl) ?_
      refine zg_cVp0 zd_StandInSearch_findAt_100 zM_Limits_count zw_496 zi_Limits_count zs_Limits_count (ct_lcount (Or.inr rfl) hUd (by omega)) (by decide) (by decide) (by omega) (by first | assumption | rfl) (by decide) rfl (Nat.le_of_ble_eq_true rfl) ?_
      refine zg_icmp_ge (tgt := 171) zd_StandInSearch_findAt_103 (by decide) (by omega) (by omega) (fun b103 => ?_) (fun b103 => ?_)
      · omega
      · refine zg_al0 zd_StandInSearch_findAt_106 ?_
        refine zg_getr zd_StandInSearch_findAt_107 zf_228 (by omega) (by first | assumption | rfl) rfl (by first | assumption | rfl) ?_
        refine zg_il9 zd_StandInSearch_findAt_110 ?_
        refine zg_cVp1 zd_StandInSearch_findAt_112 zM_Limits_at zw_497 zi_Limits_at zs_Limits_at (ct_lat (Or.inr rfl) (by omega) (by rw [hUg]; exact hr1) (by rw [hUg]; exact hr2)) (by decide) (by decide) (by omega) (by first | assumption | rfl) (by decide) rfl (Nat.le_of_ble_eq_true rfl) ?_
        rw [show (211 : Nat) + 1 = 212 from rfl, hUg, ht]
        refine zg_is10 zd_StandInSearch_findAt_115 (fun w h => by cases h <;> rfl) (by decide) ?_
        refine zg_il4 zd_StandInSearch_findAt_117 ?_
        refine zg_il5 zd_StandInSearch_findAt_119 ?_
        refine zg_al1 zd_StandInSearch_findAt_121 ?_
        refine zg_il4 zd_StandInSearch_findAt_122 ?_
        refine zg_il3 zd_StandInSearch_findAt_124 ?_
        refine zg_il10 zd_StandInSearch_findAt_125 ?_
        refine zg_cVp3 zd_StandInSearch_findAt_127 zM_Table_rowsUpTo zw_492 zi_Table_rowsUpTo zs_Table_rowsUpTo (ct_rowsUpTo p1 hg htb hTU) (by decide) (by decide) (by omega) (by first | assumption | rfl) (by decide) rfl (Nat.le_of_ble_eq_true rfl) ?_
        rw [hsU]
        refine zg_ixor ((le ^^^ zx_sl (zt_τ V n) bo g t : Nat) : Int) zd_StandInSearch_findAt_130 (zb_xor _ _) ?_
        refine zg_iconst zd_StandInSearch_findAt_131 ?_
        refine zg_ixorR zd_StandInSearch_findAt_132 ?_
        refine zg_iand ((zb_df bo (le ^^^ zx_sl (zt_τ V n) bo g t) : Nat) : Int) zd_StandInSearch_findAt_133 (zb_andnot _ _) ?_
        refine zg_is11 zd_StandInSearch_findAt_134 (fun w h => by cases h <;> rfl) (by decide) ?_
        refine zg_al1 zd_StandInSearch_findAt_136 ?_
        refine zg_il11 zd_StandInSearch_findAt_137 ?_
        refine zg_cVp1 zd_StandInSearch_findAt_139 zM_Table_weightOf zw_493 zi_Table_weightOf zs_Table_weightOf (ct_weightOf (hdf _) hTU) (by decide) (by decide) (by omega) (by first | assumption | rfl) (by decide) rfl (Nat.le_of_ble_eq_true rfl) ?_
        rw [hU20, hAU]
        refine zg_is12 zd_StandInSearch_findAt_142 (fun w h => by cases h <;> rfl) (by decide) ?_
        refine zg_al0 zd_StandInSearch_findAt_144 ?_
        refine zg_il10 zd_StandInSearch_findAt_145 ?_
        refine zg_iconst zd_StandInSearch_findAt_147 ?_
        refine zg_il12 zd_StandInSearch_findAt_148 ?_
        refine zg_cVq3 zd_StandInSearch_findAt_150 zM_StandInSearch_offer zw_498 zi_StandInSearch_offer zs_StandInSearch_offer (ct_soffer (Or.inl rfl) (by omega) (by omega)) (by decide) (by decide) (by omega) (by first | assumption | rfl) (by decide) rfl (Nat.le_of_ble_eq_true rfl) ?_
        rw [show (if U 213 3 < zy_A (zt_τ V n) s f0 l0 g t then zy_of U t 0 (zy_A (zt_τ V n) s f0 l0 g t) else U) = U1 from hU1]
        refine zg_al0 zd_StandInSearch_findAt_153 ?_
        refine zg_il10 zd_StandInSearch_findAt_154 ?_
        refine zg_iconst zd_StandInSearch_findAt_156 ?_
        refine zg_il6 zd_StandInSearch_findAt_157 ?_
        refine zg_il12 zd_StandInSearch_findAt_159 ?_
        refine zg_isub zd_StandInSearch_findAt_161 ?_
        refine zg_cVq3 zd_StandInSearch_findAt_162 zM_StandInSearch_offer zw_498 zi_StandInSearch_offer zs_StandInSearch_offer (ct_soffer (Or.inr rfl) (by omega) (by omega)) (by decide) (by decide) (by omega) (by first | assumption | rfl) (by decide) rfl (Nat.le_of_ble_eq_true rfl) ?_
        rw [show (if U1 213 3 < zy_al (zt_τ V n) s f0 g - zy_A (zt_τ V n) s f0 l0 g t then zy_of U1 t 1 (zy_al (zt_τ V n) s f0 g - zy_A (zt_τ V n) s f0 l0 g t) else U1) = U2 from hU2]
        refine zg_inc9 zd_StandInSearch_findAt_165 (fun w h => by cases h <;> rfl) (by decide) ?_
        refine zg_goto (tgt := 94) zd_StandInSearch_findAt_168 (by decide) ?_
        exact ih
  refine zg_al0 zd_StandInSearch_findAt_80 ?_
  refine zg_getr zd_StandInSearch_findAt_81 zf_228 (by omega) (by first | assumption | rfl) rfl (by first | assumption | rfl) ?_
  refine zg_al1 zd_StandInSearch_findAt_84 ?_
  refine zg_il4 zd_StandInSearch_findAt_85 ?_
  refine zg_il3 zd_StandInSearch_findAt_87 ?_
  refine zg_cVr3 zd_StandInSearch_findAt_88 zM_Limits_collect zw_495 zi_Limits_collect zs_Limits_collect (ct_lcollect (Or.inr rfl) p1 hg hTV1) (by decide) (by decide) (by omega) (by first | assumption | rfl) (by decide) rfl (Nat.le_of_ble_eq_true rfl) ?_
  intro r V2 hq
  refine zg_iconst zd_StandInSearch_findAt_91 ?_
  refine zg_is9 zd_StandInSearch_findAt_92 (fun w h => by cases h <;> rfl) (by decide) ?_
  obtain ⟨rfl, h1, d, h2, h3, h4, h5⟩ := hq
  have hV2o : ∀ b, b ≠ 211 → b ≠ 212 → V2 b = V1 b := fun b q1 q2 => h1 b (by omega)
  refine inner d (V2 212) h3 h4 (fun x => ?_) (d - 1) 0 V2 none none none (by omega) (fun b hb => by rw [hV2o b (by omega) (by omega), hV1o b (by omega)]) (by rw [hV2o 213 (by decide) (by decide)]; exact hV10) h2 rfl (Or.inl ⟨by rw [hV2o 213 (by decide) (by decide)]; exact hV13, fun t u h => by obtain ⟨i', q1, -⟩ := h; omega⟩) (fun w h => by cases h) (fun w h => by cases h)
  rw [h5 x]
  unfold zx_vl
  constructor
  · rintro ⟨r, q1, q2, q3⟩; exact ⟨r, q1, q2, by rw [← q3, hV1o (3 + r) (by omega)]⟩
  · rintro ⟨r, q1, q2, q3⟩
    have q1' : r < n := q1
    exact ⟨r, q1, q2, by rw [← q3, hV1o (3 + r) (by omega)]⟩
end ZT12

