/-! the tree: questions about a node -/
section ZT40
variable {Γ : zg_C} {V : zg_V} {sh : Nat}
theorem ct_kind (hsh : zk_sh sh) {k : Int} (hk : -2147483648 ≤ k ∧ k < 2147483648) : zg_S Γ zm_Tree_kind 1 0 0 [zg_r Γ 0, zg_i k] zk_K 242 (zk_P sh) V (zq_p zk_K 242 (zk_P sh) V (some (zg_i (zt_at (V (sh + 1)) k)))) := by
  obtain ⟨h1, h2, h3, h4⟩ := zk_shf hsh
  refine zg_enter 0 (by decide) (Nat.le_of_ble_eq_true rfl) rfl ?_
  refine zg_al0 zd_Tree_kind_0 ?_
  refine zg_getr zd_Tree_kind_1 zf_302 (by omega) (by first | assumption | rfl) rfl (by first | assumption | rfl) ?_
  refine zg_il1 zd_Tree_kind_4 ?_
  refine zg_cVp1 zd_Tree_kind_5 zM_Shape_at zw_528 zi_Shape_at zs_Shape_at (ct_hat hsh hk) (by decide) (by decide) (by omega) (by first | assumption | rfl) (by decide) rfl (Nat.le_of_ble_eq_true rfl) ?_
  refine zg_ireturn zd_Tree_kind_8 rfl ?_
  exact ⟨rfl, rfl, rfl, rfl, rfl⟩
theorem ct_rowsOf (hsh : zk_sh sh) (hkd : zt_kd (V (sh + 1))) {k : Int} (hk : -2147483648 ≤ k ∧ k < 2147483648) : zg_S Γ zm_Tree_rowsOf 1 0 0 [zg_r Γ 0, zg_i k] zk_K 242 (zk_P sh) V (zq_p zk_K 242 (zk_P sh) V (some (zg_i (if zt_at (V (sh + 1)) k = -1 then -1 else V (40 + 5 * k.toNat) 0)))) := by
  obtain ⟨h1, h2, h3, h4⟩ := zk_shf hsh
  have hb : (-1 ≤ zt_at (V (sh + 1)) k ∧ zt_at (V (sh + 1)) k ≤ 2) ∧ (¬ zt_at (V (sh + 1)) k = -1 → 1 ≤ k ∧ k < 32) := by
    unfold zt_at
    split
    · rename_i h
      have := hkd k.toNat (by omega)
      omega
    · omega
  generalize hQ : zq_p zk_K 242 (zk_P sh) V (some (zg_i (if zt_at (V (sh + 1)) k = -1 then -1 else V (40 + 5 * k.toNat) 0))) = Q
  refine zg_enter 0 (by decide) (Nat.le_of_ble_eq_true rfl) rfl ?_
  have body : ¬ zt_at (V (sh + 1)) k = -1 → zg_G Γ (fun _ => True) zm_Tree_rowsOf (zg_rm 1 0 0) (zg_Ω Γ (Q) 0 0) 0 0 16 [some (zg_r Γ (0)), some (zg_i (k))] [] zk_K 242 (zk_P sh) (V) := by
    intro hne
    have hr := hb.2 hne
    obtain ⟨κ, hκ⟩ : ∃ κ : Nat, k = (κ : Int) := ⟨k.toNat, by omega⟩
    subst hκ
    have hk32 : κ < 32 := by omega
    have hkn := (zk_node κ hk32).1
    have hnode := zp_nodes (sh := sh) hk32
    refine zg_al0 zd_Tree_rowsOf_16 ?_
    refine zg_getr zd_Tree_rowsOf_17 zf_295 (by omega) (by first | assumption | rfl) rfl (by first | assumption | rfl) ?_
    refine zg_il1 zd_Tree_rowsOf_20 ?_
    refine zg_aald zd_Tree_rowsOf_21 (by omega) (by first | assumption | rfl) rfl rfl rfl (by omega) (by decide) (by first | assumption | rfl) ?_
    refine zg_geti zd_Tree_rowsOf_22 zf_120 (by omega) (by first | assumption | rfl) rfl ?_
    refine zg_ireturn zd_Tree_rowsOf_25 rfl ?_
    subst hQ
    exact ⟨by rw [if_neg hne]; rfl, rfl, rfl, rfl, rfl⟩
  have hb1 := hb.1
  refine zg_al0 zd_Tree_rowsOf_0 ?_
  refine zg_getr zd_Tree_rowsOf_1 zf_302 (by omega) (by first | assumption | rfl) rfl (by first | assumption | rfl) ?_
  refine zg_il1 zd_Tree_rowsOf_4 ?_
  refine zg_cVp1 zd_Tree_rowsOf_5 zM_Shape_at zw_528 zi_Shape_at zs_Shape_at (ct_hat hsh hk) (by decide) (by decide) (by omega) (by first | assumption | rfl) (by decide) rfl (Nat.le_of_ble_eq_true rfl) ?_
  refine zg_iconst zd_Tree_rowsOf_8 ?_
  refine zg_icmp_ne (tgt := 16) zd_Tree_rowsOf_9 (by decide) (by omega) (by omega) (fun b9 => ?_) (fun b9 => ?_)
  · exact body (by omega)
  · refine zg_iconst zd_Tree_rowsOf_12 ?_
    refine zg_goto (tgt := 25) zd_Tree_rowsOf_13 (by decide) ?_
    refine zg_ireturn zd_Tree_rowsOf_25 rfl ?_
    subst hQ
    exact ⟨by rw [if_pos (by omega)], rfl, rfl, rfl, rfl⟩
theorem ct_classOf (hsh : zk_sh sh) (hkd : zt_kd (V (sh + 1))) {k : Int} (hk : -2147483648 ≤ k ∧ k < 2147483648) : zg_S Γ zm_Tree_classOf 1 0 0 [zg_r Γ 0, zg_i k] zk_K 242 (zk_P sh) V (zq_p zk_K 242 (zk_P sh) V (some (zg_i (if zt_at (V (sh + 1)) k = -1 then -1 else V (40 + 5 * k.toNat) 1)))) := by
  obtain ⟨h1, h2, h3, h4⟩ := zk_shf hsh
  have hb : (-1 ≤ zt_at (V (sh + 1)) k ∧ zt_at (V (sh + 1)) k ≤ 2) ∧ (¬ zt_at (V (sh + 1)) k = -1 → 1 ≤ k ∧ k < 32) := by
    unfold zt_at
    split
    · rename_i h
      have := hkd k.toNat (by omega)
      omega
    · omega
  generalize hQ : zq_p zk_K 242 (zk_P sh) V (some (zg_i (if zt_at (V (sh + 1)) k = -1 then -1 else V (40 + 5 * k.toNat) 1))) = Q
  refine zg_enter 0 (by decide) (Nat.le_of_ble_eq_true rfl) rfl ?_
  have body : ¬ zt_at (V (sh + 1)) k = -1 → zg_G Γ (fun _ => True) zm_Tree_classOf (zg_rm 1 0 0) (zg_Ω Γ (Q) 0 0) 0 0 16 [some (zg_r Γ (0)), some (zg_i (k))] [] zk_K 242 (zk_P sh) (V) := by
    intro hne
    have hr := hb.2 hne
    obtain ⟨κ, hκ⟩ : ∃ κ : Nat, k = (κ : Int) := ⟨k.toNat, by omega⟩
    subst hκ
    have hk32 : κ < 32 := by omega
    have hkn := (zk_node κ hk32).1
    have hnode := zp_nodes (sh := sh) hk32
    refine zg_al0 zd_Tree_classOf_16 ?_
    refine zg_getr zd_Tree_classOf_17 zf_295 (by omega) (by first | assumption | rfl) rfl (by first | assumption | rfl) ?_
    refine zg_il1 zd_Tree_classOf_20 ?_
    refine zg_aald zd_Tree_classOf_21 (by omega) (by first | assumption | rfl) rfl rfl rfl (by omega) (by decide) (by first | assumption | rfl) ?_
    refine zg_geti zd_Tree_classOf_22 zf_122 (by omega) (by first | assumption | rfl) rfl ?_
    refine zg_ireturn zd_Tree_classOf_25 rfl ?_
    subst hQ
    exact ⟨by rw [if_neg hne]; rfl, rfl, rfl, rfl, rfl⟩
  have hb1 := hb.1
  refine zg_al0 zd_Tree_classOf_0 ?_
  refine zg_getr zd_Tree_classOf_1 zf_302 (by omega) (by first | assumption | rfl) rfl (by first | assumption | rfl) ?_
  refine zg_il1 zd_Tree_classOf_4 ?_
  refine zg_cVp1 zd_Tree_classOf_5 zM_Shape_at zw_528 zi_Shape_at zs_Shape_at (ct_hat hsh hk) (by decide) (by decide) (by omega) (by first | assumption | rfl) (by decide) rfl (Nat.le_of_ble_eq_true rfl) ?_
  refine zg_iconst zd_Tree_classOf_8 ?_
  refine zg_icmp_ne (tgt := 16) zd_Tree_classOf_9 (by decide) (by omega) (by omega) (fun b9 => ?_) (fun b9 => ?_)
  · exact body (by omega)
  · refine zg_iconst zd_Tree_classOf_12 ?_
    refine zg_goto (tgt := 25) zd_Tree_classOf_13 (by decide) ?_
    refine zg_ireturn zd_Tree_classOf_25 rfl ?_
    subst hQ
    exact ⟨by rw [if_pos (by omega)], rfl, rfl, rfl, rfl⟩
theorem ct_error (hsh : zk_sh sh) (hkd : zt_kd (V (sh + 1))) {k : Int} (hk : -2147483648 ≤ k ∧ k < 2147483648) : zg_S Γ zm_Tree_error 1 0 0 [zg_r Γ 0, zg_i k] zk_K 242 (zk_P sh) V (zq_p zk_K 242 (zk_P sh) V (some (zg_i (if zt_at (V (sh + 1)) k = -1 then -1 else V (40 + 5 * k.toNat) 2)))) := by
  obtain ⟨h1, h2, h3, h4⟩ := zk_shf hsh
  have hb : (-1 ≤ zt_at (V (sh + 1)) k ∧ zt_at (V (sh + 1)) k ≤ 2) ∧ (¬ zt_at (V (sh + 1)) k = -1 → 1 ≤ k ∧ k < 32) := by
    unfold zt_at
    split
    · rename_i h
      have := hkd k.toNat (by omega)
      omega
    · omega
  generalize hQ : zq_p zk_K 242 (zk_P sh) V (some (zg_i (if zt_at (V (sh + 1)) k = -1 then -1 else V (40 + 5 * k.toNat) 2))) = Q
  refine zg_enter 0 (by decide) (Nat.le_of_ble_eq_true rfl) rfl ?_
  have body : ¬ zt_at (V (sh + 1)) k = -1 → zg_G Γ (fun _ => True) zm_Tree_error (zg_rm 1 0 0) (zg_Ω Γ (Q) 0 0) 0 0 16 [some (zg_r Γ (0)), some (zg_i (k))] [] zk_K 242 (zk_P sh) (V) := by
    intro hne
    have hr := hb.2 hne
    obtain ⟨κ, hκ⟩ : ∃ κ : Nat, k = (κ : Int) := ⟨k.toNat, by omega⟩
    subst hκ
    have hk32 : κ < 32 := by omega
    have hkn := (zk_node κ hk32).1
    have hnode := zp_nodes (sh := sh) hk32
    refine zg_al0 zd_Tree_error_16 ?_
    refine zg_getr zd_Tree_error_17 zf_295 (by omega) (by first | assumption | rfl) rfl (by first | assumption | rfl) ?_
    refine zg_il1 zd_Tree_error_20 ?_
    refine zg_aald zd_Tree_error_21 (by omega) (by first | assumption | rfl) rfl rfl rfl (by omega) (by decide) (by first | assumption | rfl) ?_
    refine zg_geti zd_Tree_error_22 zf_125 (by omega) (by first | assumption | rfl) rfl ?_
    refine zg_ireturn zd_Tree_error_25 rfl ?_
    subst hQ
    exact ⟨by rw [if_neg hne]; rfl, rfl, rfl, rfl, rfl⟩
  have hb1 := hb.1
  refine zg_al0 zd_Tree_error_0 ?_
  refine zg_getr zd_Tree_error_1 zf_302 (by omega) (by first | assumption | rfl) rfl (by first | assumption | rfl) ?_
  refine zg_il1 zd_Tree_error_4 ?_
  refine zg_cVp1 zd_Tree_error_5 zM_Shape_at zw_528 zi_Shape_at zs_Shape_at (ct_hat hsh hk) (by decide) (by decide) (by omega) (by first | assumption | rfl) (by decide) rfl (Nat.le_of_ble_eq_true rfl) ?_
  refine zg_iconst zd_Tree_error_8 ?_
  refine zg_icmp_ne (tgt := 16) zd_Tree_error_9 (by decide) (by omega) (by omega) (fun b9 => ?_) (fun b9 => ?_)
  · exact body (by omega)
  · refine zg_iconst zd_Tree_error_12 ?_
    refine zg_goto (tgt := 25) zd_Tree_error_13 (by decide) ?_
    refine zg_ireturn zd_Tree_error_25 rfl ?_
    subst hQ
    exact ⟨by rw [if_pos (by omega)], rfl, rfl, rfl, rfl⟩
end ZT40

