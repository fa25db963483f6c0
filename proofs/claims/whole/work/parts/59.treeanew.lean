/-! the tree: anew -/
theorem zp_show (sh : Nat) : zg_up (zk_P sh) 0 9 (some 200) = zk_P 200 := by
  funext a j
  unfold zg_up
  by_cases h : a = 0
  · subst h
    simp only [if_true]
    by_cases e : j = 9
    · subst e
      rfl
    · have e2 : Nat.beq j 9 = false := by
        cases hq : Nat.beq j 9
        · rfl
        · exact absurd (Nat.eq_of_beq_eq_true hq) e
      simp only [e, if_false]
      unfold zk_P
      rw [e2]
      rfl
  · rw [if_neg h, zp_sh (by omega), zp_sh (sh := 200) (by omega)]
/-- the class's memory behind startAnew -/
def zt_an (V : zg_V) (n : Nat) : zg_V := zg_u (zt_tk (zv_fill V 201 32 (-1)) (40 + 5 * 1) (zt_pos (V 20) n) n) 201 1 0
section ZT42
variable {Γ : zg_C} {V : zg_V} {sh : Nat}
theorem ct_anew {n : Nat} (hT : zt_T V n) : zg_S Γ zm_Tree_startAnew 4 0 0 [zg_r Γ 0] zk_K 242 (zk_P sh) V (zq_p zk_K 242 (zk_P 200) (zt_an V n) none) := by
  have ho : ∀ b, b ≠ 201 → zv_fill V 201 32 (-1) b = V b := fun b hb => zv_fill_o V 201 32 (-1) hb
  have hT1 : zt_T (zv_fill V 201 32 (-1)) n := zt_T_fr (fun b hb => ho b (by omega)) hT
  have hp16 : zt_pos (V 20) n < 65536 := zt_mk16 hT.2.1
  have h20 := ho 20 (by decide)
  refine zg_enter 0 (by decide) (Nat.le_of_ble_eq_true rfl) rfl ?_
  refine zg_al0 zd_Tree_startAnew_0 ?_
  refine zg_getr zd_Tree_startAnew_1 zf_296 (by omega) (by first | assumption | rfl) rfl (by first | assumption | rfl) ?_
  refine zg_cVq0 zd_Tree_startAnew_4 zM_Shape_clear zw_269 zi_Shape_clear zs_Shape_clear (ct_hclear (Or.inl rfl)) (by decide) (by decide) (by omega) (by first | assumption | rfl) (by decide) rfl (Nat.le_of_ble_eq_true rfl) ?_
  refine zg_al0 zd_Tree_startAnew_7 ?_
  refine zg_iconst zd_Tree_startAnew_8 ?_
  refine zg_al0 zd_Tree_startAnew_9 ?_
  refine zg_getr zd_Tree_startAnew_10 zf_293 (by omega) (by first | assumption | rfl) rfl (by first | assumption | rfl) ?_
  refine zg_cVp0 zd_Tree_startAnew_13 zM_Table_weightyRows zw_270 zi_Table_weightyRows zs_Table_weightyRows (ct_weightyRows hT1) (by decide) (by decide) (by omega) (by first | assumption | rfl) (by decide) rfl (Nat.le_of_ble_eq_true rfl) ?_
  rw [h20]
  refine zg_cVq2 zd_Tree_startAnew_16 zM_Tree_openNode zw_274 zi_Tree_openNode zs_Tree_openNode (ct_open (k := 1) (by decide) hp16 hT1) (by decide) (by decide) (by omega) (by first | assumption | rfl) (by decide) rfl (Nat.le_of_ble_eq_true rfl) ?_
  refine zg_al0 zd_Tree_startAnew_19 ?_
  refine zg_al0 zd_Tree_startAnew_20 ?_
  refine zg_getr zd_Tree_startAnew_21 zf_296 (by omega) (by first | assumption | rfl) rfl (by first | assumption | rfl) ?_
  refine zg_putr zd_Tree_startAnew_24 zf_302 rfl (by omega) (by first | assumption | rfl) rfl ?_
  refine zg_return zd_Tree_startAnew_27 rfl ?_
  exact ⟨rfl, rfl, rfl, zp_show sh, rfl⟩
end ZT42

