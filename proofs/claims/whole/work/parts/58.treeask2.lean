/-! the tree: gain, weight, votes, terms -/
section ZT41
variable {Γ : zg_C} {V : zg_V} {sh : Nat} {K : zg_K} {N : Nat} {P : zg_P}
theorem ct_isClass {c : Int} (hc : -2147483648 ≤ c ∧ c < 2147483648) : zg_S Γ zm_Tree_isClass 0 0 0 [zg_i c] K N P V (zq_p K N P V (some (zg_i (zg_b (decide (0 ≤ c ∧ c ≤ 3)))))) := by
  refine zg_enter 0 (by decide) (Nat.le_of_ble_eq_true rfl) rfl ?_
  refine zg_il0 zd_Tree_isClass_0 ?_
  refine zg_if_lt (tgt := 13) zd_Tree_isClass_1 (by decide) (by omega) (fun b1 => ?_) (fun b1 => ?_)
  · refine zg_iconst zd_Tree_isClass_13 ?_
    refine zg_zreturn zd_Tree_isClass_14 rfl (by omega) ?_
    first
    | exact ⟨by rw [decide_eq_true (by omega)]; rfl, rfl, rfl, rfl, rfl⟩
    | exact ⟨by rw [decide_eq_false (by omega)]; rfl, rfl, rfl, rfl, rfl⟩
  · refine zg_il0 zd_Tree_isClass_4 ?_
    refine zg_iconst zd_Tree_isClass_5 ?_
    refine zg_icmp_ge (tgt := 13) zd_Tree_isClass_6 (by decide) (by omega) (by omega) (fun b6 => ?_) (fun b6 => ?_)
    · refine zg_iconst zd_Tree_isClass_13 ?_
      refine zg_zreturn zd_Tree_isClass_14 rfl (by omega) ?_
      first
      | exact ⟨by rw [decide_eq_true (by omega)]; rfl, rfl, rfl, rfl, rfl⟩
      | exact ⟨by rw [decide_eq_false (by omega)]; rfl, rfl, rfl, rfl, rfl⟩
    · refine zg_iconst zd_Tree_isClass_9 ?_
      refine zg_goto (tgt := 14) zd_Tree_isClass_10 (by decide) ?_
      refine zg_zreturn zd_Tree_isClass_14 rfl (by omega) ?_
      first
      | exact ⟨by rw [decide_eq_true (by omega)]; rfl, rfl, rfl, rfl, rfl⟩
      | exact ⟨by rw [decide_eq_false (by omega)]; rfl, rfl, rfl, rfl, rfl⟩
theorem ct_isCutTerm {c : Int} (hc : -2147483648 ≤ c ∧ c < 2147483648) : zg_S Γ zm_Tree_isCutTerm 0 0 0 [zg_i c] K N P V (zq_p K N P V (some (zg_i (zg_b (decide (0 ≤ c ∧ c ≤ 1000)))))) := by
  refine zg_enter 0 (by decide) (Nat.le_of_ble_eq_true rfl) rfl ?_
  refine zg_il0 zd_Tree_isCutTerm_0 ?_
  refine zg_if_lt (tgt := 15) zd_Tree_isCutTerm_1 (by decide) (by omega) (fun b1 => ?_) (fun b1 => ?_)
  · refine zg_iconst zd_Tree_isCutTerm_15 ?_
    refine zg_zreturn zd_Tree_isCutTerm_16 rfl (by omega) ?_
    first
    | exact ⟨by rw [decide_eq_true (by omega)]; rfl, rfl, rfl, rfl, rfl⟩
    | exact ⟨by rw [decide_eq_false (by omega)]; rfl, rfl, rfl, rfl, rfl⟩
  · refine zg_il0 zd_Tree_isCutTerm_4 ?_
    refine zg_sipush zd_Tree_isCutTerm_5 (by decide) ?_
    refine zg_icmp_gt (tgt := 15) zd_Tree_isCutTerm_8 (by decide) (by omega) (by omega) (fun b8 => ?_) (fun b8 => ?_)
    · refine zg_iconst zd_Tree_isCutTerm_15 ?_
      refine zg_zreturn zd_Tree_isCutTerm_16 rfl (by omega) ?_
      first
      | exact ⟨by rw [decide_eq_true (by omega)]; rfl, rfl, rfl, rfl, rfl⟩
      | exact ⟨by rw [decide_eq_false (by omega)]; rfl, rfl, rfl, rfl, rfl⟩
    · refine zg_iconst zd_Tree_isCutTerm_11 ?_
      refine zg_goto (tgt := 16) zd_Tree_isCutTerm_12 (by decide) ?_
      refine zg_zreturn zd_Tree_isCutTerm_16 rfl (by omega) ?_
      first
      | exact ⟨by rw [decide_eq_true (by omega)]; rfl, rfl, rfl, rfl, rfl⟩
      | exact ⟨by rw [decide_eq_false (by omega)]; rfl, rfl, rfl, rfl, rfl⟩
theorem ct_weight {n : Nat} {r : Int} (hr : -2147483648 ≤ r ∧ r < 2147483648) (hT : zt_T V n) : zg_S Γ zm_Tree_weight 1 0 0 [zg_r Γ 0, zg_i r] zk_K 242 (zk_P sh) V (zq_p zk_K 242 (zk_P sh) V (some (zg_i (if 0 ≤ r ∧ r < (n : Int) then V 20 r.toNat else -1)))) := by
  have hn16 := hT.2.1
  generalize hQ : zq_p zk_K 242 (zk_P sh) V (some (zg_i (if 0 ≤ r ∧ r < (n : Int) then V 20 r.toNat else -1))) = Q
  refine zg_enter 0 (by decide) (Nat.le_of_ble_eq_true rfl) rfl ?_
  refine zg_al0 zd_Tree_weight_0 ?_
  refine zg_getr zd_Tree_weight_1 zf_293 (by omega) (by first | assumption | rfl) rfl (by first | assumption | rfl) ?_
  refine zg_il1 zd_Tree_weight_4 ?_
  refine zg_cVp1 zd_Tree_weight_5 zM_Table_has zw_385 zi_Table_has zs_Table_has (ct_has hr hT) (by decide) (by decide) (by omega) (by first | assumption | rfl) (by decide) rfl (Nat.le_of_ble_eq_true rfl) ?_
  refine zg_if_eqB (tgt := 23) zd_Tree_weight_8 (by decide) (fun b8 => ?_) (fun b8 => ?_)
  · refine zg_iconst zd_Tree_weight_23 ?_
    refine zg_ireturn zd_Tree_weight_24 rfl ?_
    first
    | (subst hQ
       exact ⟨by rw [if_pos (of_decide_eq_true b8)], rfl, rfl, rfl, rfl⟩)
    | (subst hQ
       exact ⟨by rw [if_neg (of_decide_eq_false b8)], rfl, rfl, rfl, rfl⟩)
  · have hy := of_decide_eq_true b8
    refine zg_al0 zd_Tree_weight_11 ?_
    refine zg_getr zd_Tree_weight_12 zf_293 (by omega) (by first | assumption | rfl) rfl (by first | assumption | rfl) ?_
    refine zg_getr zd_Tree_weight_15 zf_38 (by omega) (by first | assumption | rfl) rfl (by first | assumption | rfl) ?_
    refine zg_il1 zd_Tree_weight_18 ?_
    refine zg_iald (j := r.toNat) zd_Tree_weight_19 (by omega) rfl (by omega) (by omega) (by decide) ?_
    refine zg_goto (tgt := 24) zd_Tree_weight_20 (by decide) ?_
    refine zg_ireturn zd_Tree_weight_24 rfl ?_
    first
    | (subst hQ
       exact ⟨by rw [if_pos (of_decide_eq_true b8)], rfl, rfl, rfl, rfl⟩)
    | (subst hQ
       exact ⟨by rw [if_neg (of_decide_eq_false b8)], rfl, rfl, rfl, rfl⟩)
theorem ct_votes {n : Nat} {r c : Int} (hr : -2147483648 ≤ r ∧ r < 2147483648) (hc : -2147483648 ≤ c ∧ c < 2147483648) (hT : zt_T V n) : zg_S Γ zm_Tree_votes 1 0 0 [zg_r Γ 0, zg_i r, zg_i c] zk_K 242 (zk_P sh) V (zq_p zk_K 242 (zk_P sh) V (some (zg_i (if (0 ≤ r ∧ r < (n : Int)) ∧ 0 ≤ c ∧ c ≤ 3 then V (23 + r.toNat) c.toNat else -1)))) := by
  have hn16 := hT.2.1
  generalize hQ : zq_p zk_K 242 (zk_P sh) V (some (zg_i (if (0 ≤ r ∧ r < (n : Int)) ∧ 0 ≤ c ∧ c ≤ 3 then V (23 + r.toNat) c.toNat else -1))) = Q
  refine zg_enter 0 (by decide) (Nat.le_of_ble_eq_true rfl) rfl ?_
  have body : (0 ≤ r ∧ r < (n : Int)) → (0 ≤ c ∧ c ≤ 3) → zg_G Γ (fun _ => True) zm_Tree_votes (zg_rm 1 0 0) (zg_Ω Γ (Q) 0 0) 0 0 18 [some (zg_r Γ (0)), some (zg_i (r)), some (zg_i (c))] [] zk_K 242 (zk_P sh) (V) := by
    intro h1 h2
    obtain ⟨ρ, hρ⟩ : ∃ ρ : Nat, r = (ρ : Int) := ⟨r.toNat, by omega⟩
    subst hρ
    have h16 : ρ < 16 := by omega
    have hkr := (zk_row ρ h16).2
    have hpr := zp_counts (sh := sh) h16
    refine zg_al0 zd_Tree_votes_18 ?_
    refine zg_getr zd_Tree_votes_19 zf_294 (by omega) (by first | assumption | rfl) rfl (by first | assumption | rfl) ?_
    refine zg_getr zd_Tree_votes_22 zf_61 (by omega) (by first | assumption | rfl) rfl (by first | assumption | rfl) ?_
    refine zg_il1 zd_Tree_votes_25 ?_
    refine zg_aald zd_Tree_votes_26 (by omega) (by first | assumption | rfl) rfl rfl rfl (by omega) (by decide) (by first | assumption | rfl) ?_
    refine zg_il2 zd_Tree_votes_27 ?_
    refine zg_iald (j := c.toNat) zd_Tree_votes_28 (by omega) hkr (by omega) (by omega) (by decide) ?_
    refine zg_goto (tgt := 33) zd_Tree_votes_29 (by decide) ?_
    refine zg_ireturn zd_Tree_votes_33 rfl ?_
    subst hQ
    exact ⟨by rw [if_pos ⟨h1, h2⟩]; rfl, rfl, rfl, rfl, rfl⟩
  refine zg_al0 zd_Tree_votes_0 ?_
  refine zg_getr zd_Tree_votes_1 zf_293 (by omega) (by first | assumption | rfl) rfl (by first | assumption | rfl) ?_
  refine zg_il1 zd_Tree_votes_4 ?_
  refine zg_cVp1 zd_Tree_votes_5 zM_Table_has zw_385 zi_Table_has zs_Table_has (ct_has hr hT) (by decide) (by decide) (by omega) (by first | assumption | rfl) (by decide) rfl (Nat.le_of_ble_eq_true rfl) ?_
  refine zg_if_eqB (tgt := 32) zd_Tree_votes_8 (by decide) (fun b8 => ?_) (fun b8 => ?_)
  · refine zg_iconst zd_Tree_votes_32 ?_
    refine zg_ireturn zd_Tree_votes_33 rfl ?_
    first
    | (subst hQ
       exact ⟨by rw [if_neg (fun h => of_decide_eq_false b8 h.1)], rfl, rfl, rfl, rfl⟩)
    | (subst hQ
       exact ⟨by rw [if_neg (fun h => of_decide_eq_false b15 h.2)], rfl, rfl, rfl, rfl⟩)
  · refine zg_il2 zd_Tree_votes_11 ?_
    refine zg_cSp1 zd_Tree_votes_12 zM_Tree_isClass zw_337 zi_Tree_isClass (ct_isClass hc) (by decide) (by decide) (Nat.le_of_ble_eq_true rfl) ?_
    refine zg_if_eqB (tgt := 32) zd_Tree_votes_15 (by decide) (fun b15 => ?_) (fun b15 => ?_)
    · refine zg_iconst zd_Tree_votes_32 ?_
      refine zg_ireturn zd_Tree_votes_33 rfl ?_
      first
      | (subst hQ
         exact ⟨by rw [if_neg (fun h => of_decide_eq_false b8 h.1)], rfl, rfl, rfl, rfl⟩)
      | (subst hQ
         exact ⟨by rw [if_neg (fun h => of_decide_eq_false b15 h.2)], rfl, rfl, rfl, rfl⟩)
    · exact body (of_decide_eq_true b8) (of_decide_eq_true b15)
theorem ct_gain (hsh : zk_sh sh) (hkd : zt_kd (V (sh + 1))) {k : Int} (hk : -2147483648 ≤ k ∧ k < 2147483648) : zg_S Γ zm_Tree_gain 1 0 0 [zg_r Γ 0, zg_i k] zk_K 242 (zk_P sh) V (zq_p zk_K 242 (zk_P sh) V (some (zg_l (if zt_at (V (sh + 1)) k = 2 then V (41 + 5 * k.toNat) 0 * 4096 + V (41 + 5 * k.toNat) 1 else 0)))) := by
  obtain ⟨h1, h2, h3, h4⟩ := zk_shf hsh
  have hb : (-1 ≤ zt_at (V (sh + 1)) k ∧ zt_at (V (sh + 1)) k ≤ 2) ∧ (zt_at (V (sh + 1)) k = 2 → 1 ≤ k ∧ k < 32) := by
    unfold zt_at
    split
    · rename_i h
      have := hkd k.toNat (by omega)
      omega
    · omega
  generalize hQ : zq_p zk_K 242 (zk_P sh) V (some (zg_l (if zt_at (V (sh + 1)) k = 2 then V (41 + 5 * k.toNat) 0 * 4096 + V (41 + 5 * k.toNat) 1 else 0))) = Q
  refine zg_enter 1 (by decide) (Nat.le_of_ble_eq_true rfl) rfl ?_
  have body : zt_at (V (sh + 1)) k = 2 → zg_G Γ (fun _ => True) zm_Tree_gain (zg_rm 1 0 0) (zg_Ω Γ (Q) 0 0) 0 0 14 [some (zg_r Γ (0)), some (zg_i (k)), none] [] zk_K 242 (zk_P sh) (V) := by
    intro hne
    have hr := hb.2 hne
    obtain ⟨κ, hκ⟩ : ∃ κ : Nat, k = (κ : Int) := ⟨k.toNat, by omega⟩
    subst hκ
    have hk32 : κ < 32 := by omega
    obtain ⟨hkn, hkw, -⟩ := zk_node κ hk32
    have hnode := zp_nodes (sh := sh) hk32
    obtain ⟨hp5, -⟩ := zp_node (sh := sh) hk32
    refine zg_al0 zd_Tree_gain_14 ?_
    refine zg_getr zd_Tree_gain_15 zf_295 (by omega) (by first | assumption | rfl) rfl (by first | assumption | rfl) ?_
    refine zg_il1 zd_Tree_gain_18 ?_
    refine zg_aald zd_Tree_gain_19 (by omega) (by first | assumption | rfl) rfl rfl rfl (by omega) (by decide) (by first | assumption | rfl) ?_
    refine zg_getr zd_Tree_gain_20 zf_136 (by omega) (by first | assumption | rfl) rfl (by first | assumption | rfl) ?_
    refine zg_as2 zd_Tree_gain_23 (fun w h => by cases h <;> rfl) (by decide) ?_
    refine zg_al2 zd_Tree_gain_24 ?_
    refine zg_getl zd_Tree_gain_25 zf_81 (by omega) (by first | assumption | rfl) rfl ?_
    refine zg_ldc2 (4096) zd_Tree_gain_28 zw_552 (by decide) ?_
    refine zg_lmul zd_Tree_gain_31 ?_
    refine zg_al2 zd_Tree_gain_32 ?_
    refine zg_getl zd_Tree_gain_33 zf_84 (by omega) (by first | assumption | rfl) rfl ?_
    refine zg_ladd zd_Tree_gain_36 ?_
    refine zg_lreturn zd_Tree_gain_37 rfl ?_
    subst hQ
    exact ⟨by rw [if_pos hne]; rfl, rfl, rfl, rfl, rfl⟩
  have hb1 := hb.1
  refine zg_al0 zd_Tree_gain_0 ?_
  refine zg_getr zd_Tree_gain_1 zf_302 (by omega) (by first | assumption | rfl) rfl (by first | assumption | rfl) ?_
  refine zg_il1 zd_Tree_gain_4 ?_
  refine zg_cVp1 zd_Tree_gain_5 zM_Shape_at zw_528 zi_Shape_at zs_Shape_at (ct_hat hsh hk) (by decide) (by decide) (by omega) (by first | assumption | rfl) (by decide) rfl (Nat.le_of_ble_eq_true rfl) ?_
  refine zg_iconst zd_Tree_gain_8 ?_
  refine zg_icmp_eq (tgt := 14) zd_Tree_gain_9 (by decide) (by omega) (by omega) (fun b9 => ?_) (fun b9 => ?_)
  · exact body (by omega)
  · refine zg_lconst (z := 0) zd_Tree_gain_12 rfl ?_
    refine zg_lreturn zd_Tree_gain_13 rfl ?_
    subst hQ
    exact ⟨by rw [if_neg (by omega)], rfl, rfl, rfl, rfl⟩
end ZT41

