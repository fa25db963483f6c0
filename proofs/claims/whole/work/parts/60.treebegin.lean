/-! the tree: even -/
section ZT43
variable {Γ : zg_C} {V : zg_V} {sh : Nat}
theorem zt_fill_T {n : Nat} (hT : zt_T V n) : zt_T (zv_fill V 20 n 1) n := by
  obtain ⟨h1, h2, h3, h4, h5, h6⟩ := hT
  have o : ∀ b, b ≠ 20 → zv_fill V 20 n 1 b = V b := fun b hb => zv_fill_o V 20 n 1 hb
  have i : ∀ r, r < n → zv_fill V 20 n 1 20 r = 1 := fun r hr => by simp [zv_fill, hr]
  refine ⟨by rw [o 1 (by decide)]; exact h1, h2, fun r f a b => by rw [o (3 + r) (by omega)]; exact h3 r f a b, fun r a => by rw [o 19 (by decide)]; exact h4 r a, fun r a => ?_, ?_⟩
  · by_cases e : r < n
    · rw [i r e]; omega
    · have : zv_fill V 20 n 1 20 r = V 20 r := by simp [zv_fill, e]
      rw [this]; exact h5 r a
  · rw [zs_sum_congr (g := fun _ => 1) (fun r hr => i r hr)]
    have : ∀ m : Nat, zs_sum (fun _ => 1) m = (m : Int) := fun m => by
      induction m with
      | zero => rfl
      | succ m ih => rw [zs_sum_s, ih]; omega
    rw [this]; omega
theorem ct_even {n : Nat} (hT : zt_T V n) : zg_S Γ zm_Tree_even 5 0 0 [zg_r Γ 0] zk_K 242 (zk_P sh) V (zq_p zk_K 242 (zk_P 200) (zt_an (zv_fill V 20 n 1) n) none) := by
  have hT1 := zt_fill_T hT
  refine zg_enter 0 (by decide) (Nat.le_of_ble_eq_true rfl) rfl ?_
  refine zg_al0 zd_Tree_even_0 ?_
  refine zg_getr zd_Tree_even_1 zf_293 (by omega) (by first | assumption | rfl) rfl (by first | assumption | rfl) ?_
  refine zg_iconst zd_Tree_even_4 ?_
  refine zg_cVq1 zd_Tree_even_5 zM_Table_setWeights zw_344 zi_Table_setWeights zs_Table_setWeights (ct_setWeights hT.1 hT.2.1) (by decide) (by decide) (by omega) (by first | assumption | rfl) (by decide) rfl (Nat.le_of_ble_eq_true rfl) ?_
  refine zg_al0 zd_Tree_even_8 ?_
  refine zg_cVq0 zd_Tree_even_9 zM_Tree_startAnew zw_265 zi_Tree_startAnew zs_Tree_startAnew (ct_anew hT1) (by decide) (by decide) (by omega) (by first | assumption | rfl) (by decide) rfl (Nat.le_of_ble_eq_true rfl) ?_
  refine zg_return zd_Tree_even_12 rfl ?_
  exact ⟨rfl, rfl, rfl, rfl, rfl⟩
end ZT43

