/-! constructors of the small objects -/
section ZT83
variable {Γ : zg_C} {V : zg_V} {P : zg_P} {N a : Nat}
theorem ci_Fraction {K : zg_K} (ha : a < N) (hk : K a = (0, 4)) : zg_S Γ zm_Fraction_init 1 0 0 [zg_r Γ a] K N P V (zq_p K N P (zf_set V a 0 1) none) := by
  refine zg_enter 0 (by decide) (Nat.le_of_ble_eq_true rfl) rfl ?_
  refine zg_al0 zd_Fraction_init_0 ?_
  refine zg_obj zd_Fraction_init_1 zw_77 (by decide) (by decide) ?_
  refine zg_al0 zd_Fraction_init_4 ?_
  refine zg_lconst (z := 0) zd_Fraction_init_5 rfl ?_
  refine zg_putl zd_Fraction_init_6 zf_78 rfl (by omega) (by first | assumption | rfl) rfl ?_
  refine zg_al0 zd_Fraction_init_9 ?_
  refine zg_lconst (z := 1) zd_Fraction_init_10 rfl ?_
  refine zg_putl zd_Fraction_init_11 zf_82 rfl (by omega) (by first | assumption | rfl) rfl ?_
  refine zg_return zd_Fraction_init_14 rfl ?_
  exact ⟨rfl, rfl, rfl, rfl, rfl⟩
theorem ci_StandIn {K : zg_K} : zg_S Γ zm_StandIn_init 1 0 0 [zg_r Γ a] K N P V (zq_p K N P V none) := by
  refine zg_enter 0 (by decide) (Nat.le_of_ble_eq_true rfl) rfl ?_
  refine zg_al0 zd_StandIn_init_0 ?_
  refine zg_obj zd_StandIn_init_1 zw_96 (by decide) (by decide) ?_
  refine zg_return zd_StandIn_init_4 rfl ?_
  exact ⟨rfl, rfl, rfl, rfl, rfl⟩
theorem ci_Limits {K : zg_K} (ha : a < N) (hk : K a = (0, 8)) (hkn : K N = (1, 16)) (hV0 : ∀ b, N ≤ b → ∀ j, V b j = 0) : zg_S Γ zm_Limits_init 1 1 16 [zg_r Γ a] K N P V (zq_p K (N + 1) (zg_up P a 0 (some N)) V none) := by
  refine zg_enter 0 (by decide) (Nat.le_of_ble_eq_true rfl) rfl ?_
  refine zg_al0 zd_Limits_init_0 ?_
  refine zg_obj zd_Limits_init_1 zw_189 (by decide) (by decide) ?_
  refine zg_al0 zd_Limits_init_4 ?_
  refine zg_bipush zd_Limits_init_5 (by decide) ?_
  refine zg_newi zd_Limits_init_7 (by first | assumption | rfl) (by rfl) (by decide) (fun j => by first | exact hV0 _ (by omega) j | (simp (disch := omega) only [zg_u_out, zv_fill_o, zf_set_o]; exact hV0 _ (by omega) j)) (by omega) (by first | omega | (simp only [zn_n]; omega)) ?_
  refine zg_putF zd_Limits_init_9 zf_190 rfl rfl rfl (by omega) (by first | assumption | rfl) rfl ?_
  refine zg_return zd_Limits_init_12 rfl ?_
  exact ⟨rfl, rfl, rfl, rfl, rfl⟩
theorem ci_clear (ha : a + 1 < N) (h : zk_sh a) (hp : P a 0 = some (a + 1)) : zg_S Γ zm_Shape_clear 0 0 0 [zg_r Γ a] zk_K N P V (zq_p zk_K N P (zv_fill V (a + 1) 32 (-1)) none) := by
  obtain ⟨h1, h2, h3, h4⟩ := zk_shf h
  generalize hQ : zq_p zk_K N P (zv_fill V (a + 1) 32 (-1)) none = Q
  refine zg_enter 1 (by decide) (Nat.le_of_ble_eq_true rfl) rfl ?_
  refine zg_iconst zd_Shape_clear_0 ?_
  refine zg_is1 zd_Shape_clear_1 (fun w h => by cases h <;> rfl) (by decide) ?_
  have key : ∀ (j i : Nat) (hij : i + j = 32), zg_G Γ (fun _ => True) zm_Shape_clear (zg_rm 0 0 0) (zg_Ω Γ (Q) 0 0) 0 0 2 [some (zg_r Γ (a)), some (zg_i ((i : Nat)))] [] zk_K (N) (P) (zv_fill V (a + 1) i (-1)) := by
    intro j
    induction j with
    | zero =>
      intro i hij
      have e : i = 32 := by omega
      subst e
      refine zg_il1 zd_Shape_clear_2 ?_
      refine zg_bipush zd_Shape_clear_3 (by decide) ?_
      refine zg_icmp_ge (tgt := 21) zd_Shape_clear_5 (by decide) (by omega) (by omega) (fun b5 => ?_) (fun b5 => ?_)
      · refine zg_return zd_Shape_clear_21 rfl ?_
        subst hQ; exact ⟨rfl, rfl, rfl, rfl, rfl⟩
      · omega
    | succ j ih =>
      intro i hij
      have ih := ih (i + 1) (by omega)
      rw [← zv_fill_s] at ih
      refine zg_il1 zd_Shape_clear_2 ?_
      refine zg_bipush zd_Shape_clear_3 (by decide) ?_
      refine zg_icmp_ge (tgt := 21) zd_Shape_clear_5 (by decide) (by omega) (by omega) (fun b5 => ?_) (fun b5 => ?_)
      · omega
      · refine zg_al0 zd_Shape_clear_8 ?_
        refine zg_getr zd_Shape_clear_9 zf_172 (by omega) (by first | assumption | rfl) rfl (by first | assumption | rfl) ?_
        refine zg_il1 zd_Shape_clear_12 ?_
        refine zg_iconst zd_Shape_clear_13 ?_
        refine zg_iast zd_Shape_clear_14 (by omega) (by first | assumption | rfl) rfl (by omega) (by decide) ?_
        refine zg_inc1 zd_Shape_clear_15 (fun w h => by cases h <;> rfl) (by decide) ?_
        refine zg_goto (tgt := 2) zd_Shape_clear_18 (by decide) ?_
        exact ih
  have := key 32 0 (by omega)
  rw [zv_fill_0] at this
  exact this
theorem ci_Shape (hN : N = a + 1) (h : zk_sh a) (hV0 : ∀ b, N ≤ b → ∀ j, V b j = 0) : zg_S Γ zm_Shape_init 1 1 32 [zg_r Γ a] zk_K N P V (zq_p zk_K (N + 1) (zg_up P a 0 (some (a + 1))) (zv_fill V (a + 1) 32 (-1)) none) := by
  obtain ⟨h1, h2, h3, h4⟩ := zk_shf h
  subst hN
  refine zg_enter 0 (by decide) (Nat.le_of_ble_eq_true rfl) rfl ?_
  refine zg_al0 zd_Shape_init_0 ?_
  refine zg_obj zd_Shape_init_1 zw_167 (by decide) (by decide) ?_
  refine zg_al0 zd_Shape_init_4 ?_
  refine zg_bipush zd_Shape_init_5 (by decide) ?_
  refine zg_newi zd_Shape_init_7 (by first | assumption | rfl) (by rfl) (by decide) (fun j => by first | exact hV0 _ (by omega) j | (simp (disch := omega) only [zg_u_out, zv_fill_o, zf_set_o]; exact hV0 _ (by omega) j)) (by omega) (by first | omega | (simp only [zn_n]; omega)) ?_
  refine zg_putF zd_Shape_init_9 zf_172 rfl rfl rfl (by omega) (by first | assumption | rfl) rfl ?_
  refine zg_al0 zd_Shape_init_12 ?_
  refine zg_cVq0 zd_Shape_init_13 zM_Shape_clear zw_168 zi_Shape_clear zs_Shape_clear (ci_clear (by omega) h (zg_up_in _ _ _ _)) (by decide) (by decide) (by omega) (by first | assumption | rfl) (by decide) rfl (Nat.le_of_ble_eq_true rfl) ?_
  refine zg_return zd_Shape_init_16 rfl ?_
  exact ⟨rfl, rfl, rfl, rfl, rfl⟩
/-- what a node's constructor leaves -/
def zi_PN (P : zg_P) (a : Nat) : zg_P := zg_up (zg_up (zg_up (zg_up P a 5 (some (a + 1))) a 7 (some (a + 2))) (a + 2) 0 (some (a + 3))) (a + 2) 1 (some (a + 4))
theorem ci_Node {k : Nat} (hk : k < 32) (ha : a = 40 + 5 * k) (hN : N = a + 1) (hV0 : ∀ b, N ≤ b → ∀ j, V b j = 0) (hP0 : ∀ b, N ≤ b → ∀ j, P b j = none) : zg_S Γ zm_Node_init 2 4 12 [zg_r Γ a] zk_K N P V (zq_p zk_K (N + 4) (zi_PN P a) (zf_set V (a + 1) 0 1) none) := by
  obtain ⟨k0, k1, k2, k3, k4⟩ := zk_node k hk
  have q0 : zk_K a = (0, 3) := by rw [ha]; exact k0
  have q1 : zk_K (a + 1) = (0, 4) := by rw [show a + 1 = 41 + 5 * k by omega]; exact k1
  have q2 : zk_K (a + 1 + 1) = (5, 2) := by rw [show a + 1 + 1 = 42 + 5 * k by omega]; exact k2
  have q3 : zk_K (a + 1 + 1 + 1) = (0, 5) := by rw [show a + 1 + 1 + 1 = 43 + 5 * k by omega]; exact k3
  have q4 : zk_K (a + 1 + 1 + 1 + 1) = (0, 5) := by rw [show a + 1 + 1 + 1 + 1 = 44 + 5 * k by omega]; exact k4
  have e1 : zg_up (zg_up P a 5 (some (a + 1))) a 7 (some (a + 1 + 1)) a 7 = some (a + 1 + 1) := zg_up_in _ _ _ _
  have e2 : zg_up (zg_up (zg_up P a 5 (some (a + 1))) a 7 (some (a + 1 + 1))) (a + 1 + 1) 0 (some (a + 1 + 1 + 1)) a 7 = some (a + 1 + 1) := by rw [zg_up_out _ _ _ _ (by omega), zg_up_in]
  subst hN
  refine zg_enter 1 (by decide) (Nat.le_of_ble_eq_true rfl) rfl ?_
  have last : zg_G Γ (fun _ => True) zm_Node_init (zg_rm 2 4 12) (zg_Ω Γ (zq_p zk_K (a + 1 + 4) (zi_PN P a) (zf_set V (a + 1) 0 1) none) 4 12) 0 0 25 [some (zg_r Γ (a)), some (zg_i (((2 : Nat) : Int)))] [] zk_K (a + 1 + 1 + 1 + 1 + 1) (zi_PN P a) (zf_set V (a + 1) 0 1) := by
    refine zg_il1 zd_Node_init_25 ?_
    refine zg_iconst zd_Node_init_26 ?_
    refine zg_icmp_ge (tgt := 49) zd_Node_init_27 (by decide) (by omega) (by omega) (fun b27 => ?_) (fun b27 => ?_)
    · refine zg_return zd_Node_init_49 rfl ?_
      exact ⟨rfl, rfl, rfl, rfl, rfl⟩
    · omega
  have second : zg_G Γ (fun _ => True) zm_Node_init (zg_rm 2 4 12) (zg_Ω Γ (zq_p zk_K (a + 1 + 4) (zi_PN P a) (zf_set V (a + 1) 0 1) none) 4 12) 1 4 25 [some (zg_r Γ (a)), some (zg_i (((1 : Nat) : Int)))] [] zk_K (a + 1 + 1 + 1 + 1) (zg_up (zg_up (zg_up P a 5 (some (a + 1))) a 7 (some (a + 1 + 1))) (a + 1 + 1) 0 (some (a + 1 + 1 + 1))) (zf_set V (a + 1) 0 1) := by
    refine zg_il1 zd_Node_init_25 ?_
    refine zg_iconst zd_Node_init_26 ?_
    refine zg_icmp_ge (tgt := 49) zd_Node_init_27 (by decide) (by omega) (by omega) (fun b27 => ?_) (fun b27 => ?_)
    · omega
    · refine zg_al0 zd_Node_init_30 ?_
      refine zg_getr zd_Node_init_31 zf_139 (by omega) (by first | assumption | rfl) rfl (by first | assumption | rfl) ?_
      refine zg_il1 zd_Node_init_34 ?_
      refine zg_new (ci := 5) zd_Node_init_35 (by decide) zw_90 zw_92 zw_6 (by first | assumption | rfl) (fun j => by first | exact hV0 _ (by omega) j | (simp (disch := omega) only [zg_u_out, zv_fill_o, zf_set_o]; exact hV0 _ (by omega) j)) (fun j => by first | exact hP0 _ (by omega) j | (simp (disch := omega) only [zg_up_out]; exact hP0 _ (by omega) j)) (by omega) (by simp only [zn_n]; omega) ?_
      refine zg_dup zd_Node_init_38 rfl ?_
      refine zg_cIN zd_Node_init_39 zM_StandIn_init rfl (fun _ h => h.2.2.1) zi_StandIn_init rfl (ci_StandIn) (by decide) (by decide) (by omega) (by first | omega | (simp only [zn_n]; omega)) (Nat.le_of_ble_eq_true rfl) ?_
      refine zg_aast (j := 1) (t := 1) (ci := 5) (n := 2) zd_Node_init_42 (by omega) q2 (by decide) rfl (by omega) q4 rfl (by decide) (by decide) ?_
      refine zg_inc1 zd_Node_init_43 (fun w h => by cases h <;> rfl) (by decide) ?_
      refine zg_goto (tgt := 25) zd_Node_init_46 (by decide) ?_
      exact last
  have first : zg_G Γ (fun _ => True) zm_Node_init (zg_rm 2 4 12) (zg_Ω Γ (zq_p zk_K (a + 1 + 4) (zi_PN P a) (zf_set V (a + 1) 0 1) none) 4 12) 2 8 25 [some (zg_r Γ (a)), some (zg_i (((0 : Nat) : Int)))] [] zk_K (a + 1 + 1 + 1) (zg_up (zg_up P a 5 (some (a + 1))) a 7 (some (a + 1 + 1))) (zf_set V (a + 1) 0 1) := by
    refine zg_il1 zd_Node_init_25 ?_
    refine zg_iconst zd_Node_init_26 ?_
    refine zg_icmp_ge (tgt := 49) zd_Node_init_27 (by decide) (by omega) (by omega) (fun b27 => ?_) (fun b27 => ?_)
    · omega
    · refine zg_al0 zd_Node_init_30 ?_
      refine zg_getr zd_Node_init_31 zf_139 (by omega) (by first | assumption | rfl) rfl (by first | assumption | rfl) ?_
      refine zg_il1 zd_Node_init_34 ?_
      refine zg_new (ci := 5) zd_Node_init_35 (by decide) zw_90 zw_92 zw_6 (by first | assumption | rfl) (fun j => by first | exact hV0 _ (by omega) j | (simp (disch := omega) only [zg_u_out, zv_fill_o, zf_set_o]; exact hV0 _ (by omega) j)) (fun j => by first | exact hP0 _ (by omega) j | (simp (disch := omega) only [zg_up_out]; exact hP0 _ (by omega) j)) (by omega) (by simp only [zn_n]; omega) ?_
      refine zg_dup zd_Node_init_38 rfl ?_
      refine zg_cIN zd_Node_init_39 zM_StandIn_init rfl (fun _ h => h.2.2.1) zi_StandIn_init rfl (ci_StandIn) (by decide) (by decide) (by omega) (by first | omega | (simp only [zn_n]; omega)) (Nat.le_of_ble_eq_true rfl) ?_
      refine zg_aast (j := 0) (t := 1) (ci := 5) (n := 2) zd_Node_init_42 (by omega) q2 (by decide) rfl (by omega) q3 rfl (by decide) (by decide) ?_
      refine zg_inc1 zd_Node_init_43 (fun w h => by cases h <;> rfl) (by decide) ?_
      refine zg_goto (tgt := 25) zd_Node_init_46 (by decide) ?_
      exact second
  refine zg_al0 zd_Node_init_0 ?_
  refine zg_obj zd_Node_init_1 zw_71 (by decide) (by decide) ?_
  refine zg_al0 zd_Node_init_4 ?_
  refine zg_new (ci := 4) zd_Node_init_5 (by decide) zw_72 zw_73 zw_5 (by first | assumption | rfl) (fun j => by first | exact hV0 _ (by omega) j | (simp (disch := omega) only [zg_u_out, zv_fill_o, zf_set_o]; exact hV0 _ (by omega) j)) (fun j => by first | exact hP0 _ (by omega) j | (simp (disch := omega) only [zg_up_out]; exact hP0 _ (by omega) j)) (by omega) (by simp only [zn_n]; omega) ?_
  refine zg_dup zd_Node_init_8 rfl ?_
  refine zg_cI zd_Node_init_9 zM_Fraction_init rfl zw_74 zi_Fraction_init rfl (ci_Fraction (by omega) q1) (by decide) (by decide) (by omega) (by first | omega | (simp only [zn_n]; omega)) (Nat.le_of_ble_eq_true rfl) ?_
  refine zg_putF zd_Node_init_12 zf_134 rfl rfl rfl (by omega) (by first | assumption | rfl) rfl ?_
  refine zg_al0 zd_Node_init_15 ?_
  refine zg_iconst zd_Node_init_16 ?_
  refine zg_newr (t := 1) zd_Node_init_17 zw_90 (fun _ h => h.2.1) rfl (by first | assumption | rfl) (by rfl) (by decide) (fun j => by first | exact hP0 _ (by omega) j | (simp (disch := omega) only [zg_up_out]; exact hP0 _ (by omega) j)) (by omega) (by first | omega | (simp only [zn_n]; omega)) ?_
  refine zg_putF zd_Node_init_20 zf_139 rfl rfl rfl (by omega) (by first | assumption | rfl) rfl ?_
  refine zg_iconst zd_Node_init_23 ?_
  refine zg_is1 zd_Node_init_24 (fun w h => by cases h <;> rfl) (by decide) ?_
  exact first
end ZT83

