/-! the constructor of the tree -/
def zi_0 : zg_P := fun _ _ => none
def zi_V0 : zg_V := fun _ _ => 0
def zi_PA : zg_P := zg_up (zg_up (zi_PB (zg_up (zi_PT zi_0) 0 0 (some 1))) 0 1 (some 21)) 0 2 (some 39)
def zi_VA : zg_V := zg_u zi_V0 1 3 0
def zi_NP : Nat → zg_P → zg_P
  | 0, P => P
  | k + 1, P => zg_up (zi_PN (zi_NP k P) (40 + 5 * k)) 39 k (some (40 + 5 * k))
def zi_NV : Nat → zg_V → zg_V
  | 0, V => V
  | k + 1, V => zf_set (zi_NV k V) (40 + 5 * k + 1) 0 1
theorem zi_NP_o (P : zg_P) {b : Nat} (h39 : b ≠ 39) : ∀ k, (b < 40 ∨ 40 + 5 * k ≤ b) → zi_NP k P b = P b
  | 0, _ => rfl
  | k + 1, h => by
    show zg_up (zi_PN (zi_NP k P) (40 + 5 * k)) 39 k (some (40 + 5 * k)) b = _
    rw [zg_up_out _ _ _ _ h39, zi_PN_out _ _ (by omega) (by omega)]
    exact zi_NP_o P h39 k (by omega)
theorem zi_NV_o (V : zg_V) {b : Nat} : ∀ k, (b < 40 ∨ 40 + 5 * k ≤ b ∨ ∀ i, i < k → b ≠ 41 + 5 * i) → zi_NV k V b = V b
  | 0, _ => rfl
  | k + 1, h => by
    show zf_set (zi_NV k V) (40 + 5 * k + 1) 0 1 b = _
    rw [zf_set_o _ _ _ _ (by
      rcases h with h | h | h
      · omega
      · omega
      · have := h k (by omega); omega)]
    refine zi_NV_o V k ?_
    rcases h with h | h | h
    · exact Or.inl h
    · exact Or.inr (Or.inl (by omega))
    · exact Or.inr (Or.inr (fun i hi => h i (by omega)))
def zi_PD (P : zg_P) : zg_P := zg_up (zg_up (zi_PC (zg_up (zi_PU (zg_up (zi_PS (zg_up (zg_up (zg_up (zg_up P 200 0 (some 201)) 0 3 (some 200)) 202 0 (some 203)) 0 4 (some 202))) 0 5 (some 204))) 0 6 (some 210))) 0 7 (some 214)) 0 8 (some 222)
def zi_VD (V : zg_V) : zg_V := zg_u (zg_u (zg_u (zi_VC (zf_set (zv_fill (zv_fill V 201 32 (-1)) 203 32 (-1)) 209 0 1)) 0 10 0) 0 11 4) 0 12 1
theorem zi_PS_o (P : zg_P) {b : Nat} (h : b ≠ 204) (h2 : b ≠ 205) : zi_PS P b = P b := by
  unfold zi_PS
  rw [zg_up_out _ _ _ _ h, zg_up_out _ _ _ _ h, zg_up_out _ _ _ _ h, zg_up_out _ _ _ _ h, zg_up_out _ _ _ _ h2]
theorem zi_PU_o (P : zg_P) {b : Nat} (h : b ≠ 210) (h2 : b ≠ 211) : zi_PU P b = P b := by
  unfold zi_PU
  rw [zg_up_out _ _ _ _ h, zg_up_out _ _ _ _ h, zg_up_out _ _ _ _ h2]
/-- nothing is named outside -/
def zi_ok (P : zg_P) : Prop := ∀ a j, (223 ≤ a ∨ 34 ≤ j) → P a j = none
theorem zi_ok_u {P : zg_P} {a j : Nat} {v : Option Nat} (h : zi_ok P) (ha : a < 223) (hj : j < 34) : zi_ok (zg_up P a j v) := by
  intro b i hb
  by_cases e : b = a
  · subst e
    rw [zg_up_off _ _ _ _ (by omega)]
    exact h b i hb
  · rw [zg_up_out _ _ _ _ e]
    exact h b i hb
theorem zi_ok_R {P : zg_P} {N n : Nat} (h : zi_ok P) (hN : N < 223) (hn : n ≤ 34) : zi_ok (zg_upR P N n) := by
  intro b i hb
  by_cases e : b = N
  · subst e
    unfold zg_upR
    rw [if_pos rfl, if_neg (by omega)]
    exact h b i hb
  · rw [zg_upR_out _ _ _ e]
    exact h b i hb
theorem zi_ok_N {P : zg_P} (h : zi_ok P) : ∀ k, k ≤ 32 → zi_ok (zi_NP k P)
  | 0, _ => h
  | k + 1, hk => by
    show zi_ok (zg_up (zg_up (zg_up (zg_up (zg_up (zi_NP k P) (40 + 5 * k) 5 _) (40 + 5 * k) 7 _) (40 + 5 * k + 2) 0 _) (40 + 5 * k + 2) 1 _) 39 k _)
    exact zi_ok_u (zi_ok_u (zi_ok_u (zi_ok_u (zi_ok_u (zi_ok_N h k (by omega)) (by omega) (by omega)) (by omega) (by omega)) (by omega) (by omega)) (by omega) (by omega)) (by omega) (by omega)
theorem zk_P_j (sh a : Nat) {j : Nat} (h : 34 ≤ j) : zk_P sh a j = none := by
  have hb : ∀ c, c < 34 → Nat.beq j c = false := fun c hc => by
    cases hq : Nat.beq j c
    · rfl
    · have := Nat.eq_of_beq_eq_true hq; omega
  have hl : ∀ c, c ≤ 34 → Nat.blt j c = false := fun c hc => by
    cases hq : Nat.blt j c
    · rfl
    · have := Nat.le_of_ble_eq_true hq; omega
  unfold zk_P
  simp only [hb 0 (by decide), hb 1 (by decide), hb 2 (by decide), hb 3 (by decide), hb 4 (by decide), hb 5 (by decide), hb 6 (by decide), hb 7 (by decide), hb 8 (by decide), hb 9 (by decide), hb 10 (by decide), hb 11 (by decide), hb 20 (by decide), hb 21 (by decide), hb 22 (by decide), hb 23 (by decide), hb 27 (by decide), hb 28 (by decide), hb 29 (by decide), hb 30 (by decide), hb 31 (by decide), hb 32 (by decide), hb 33 (by decide), hl 4 (by decide), hl 8 (by decide), hl 16 (by decide), hl 20 (by decide), hl 27 (by decide), hl 32 (by decide), cond_false, Bool.cond_self]
theorem zi_PE : zi_PD (zi_NP 32 zi_PA) = zi_Pn := by
  have key : ∀ a, a < 223 → ∀ j, j < 34 → zi_PD (zi_NP 32 zi_PA) a j = zi_Pn a j := by decide +kernel
  have ok : zi_ok (zi_PD (zi_NP 32 zi_PA)) := by
    have h0 : zi_ok zi_0 := fun _ _ _ => rfl
    have hA : zi_ok zi_PA := zi_ok_u (zi_ok_u (zi_ok_u (zi_ok_R (zi_ok_u (zi_ok_u (zi_ok_u (zi_ok_u (zi_ok_R h0 (by decide) (by decide)) (by decide) (by decide)) (by decide) (by decide)) (by decide) (by decide)) (by decide) (by decide)) (by decide) (by decide)) (by decide) (by decide)) (by decide) (by decide)) (by decide) (by decide)
    have hN := zi_ok_N hA 32 (Nat.le_refl _)
    generalize zi_NP 32 zi_PA = Q at hN ⊢
    unfold zi_PD zi_PC zi_PU zi_PS
    repeat' (first | exact hN | refine zi_ok_u ?_ (by decide) (by decide))
  funext a j
  by_cases h : a < 223 ∧ j < 34
  · exact key a h.1 j h.2
  · rw [ok a j (by omega)]
    unfold zi_Pn
    by_cases ha : a < 223
    · rw [if_pos ha]
      by_cases h0 : a = 0
      · rw [if_pos h0, if_neg (by omega), zk_P_j 200 0 (by omega)]
      · rw [if_neg h0, zk_P_j 200 a (by omega)]
    · rw [if_neg ha]
section ZT85
variable {Γ : zg_C}
theorem ci_TreeC {V : zg_V} {P : zg_P} (hV0 : ∀ b, 200 ≤ b → ∀ j, V b j = 0) (hP0 : ∀ b, 200 ≤ b → ∀ j, P b j = none) (hPe : zi_PD P = zi_Pn) (hTT : zt_T (zi_VD V) 0) : zg_G Γ (fun _ => True) zm_Tree_init (zg_rm 5 222 1151) (zg_Ω Γ (zq_p zk_K 223 (zg_up zi_Pn 0 9 (some 200)) (zt_an (zi_VD V) 0) none) 222 1151) 23 266 62 [some (zg_r Γ (0)), some (zg_i (32))] [] zk_K (200) (P) (V) := by
  have fin : zg_G Γ (fun _ => True) zm_Tree_init (zg_rm 5 222 1151) (zg_Ω Γ (zq_p zk_K 223 (zg_up zi_Pn 0 9 (some 200)) (zt_an (zi_VD V) 0) none) 222 1151) 0 0 139 [some (zg_r Γ (0)), some (zg_i (32))] [] zk_K (223) (zi_PD P) (zi_VD V) := by
    rw [hPe]
    refine zg_al0 zd_Tree_init_139 ?_
    refine zg_cVq0 zd_Tree_init_140 zM_Tree_startAnew zw_265 zi_Tree_startAnew zs_Tree_startAnew (ci_anew (by decide) hTT) (by decide) (by decide) (by omega) (by first | assumption | rfl) (by decide) rfl (Nat.le_of_ble_eq_true rfl) ?_
    refine zg_return zd_Tree_init_143 rfl ?_
    exact ⟨rfl, rfl, rfl, rfl, rfl⟩
  have fin2 := zg_bud (Nat.zero_le 0) (Nat.zero_le 0) fin
  refine zg_al0 zd_Tree_init_62 ?_
  refine zg_new (ci := 6) zd_Tree_init_63 (by decide) zw_162 zw_163 zw_7 (by first | assumption | rfl) (fun j => by first | exact hV0 _ (by omega) j | (simp (disch := omega) only [zg_u_out, zv_fill_o, zf_set_o]; exact hV0 _ (by omega) j) | rfl) (fun j => by first | exact hP0 _ (by omega) j | (simp (disch := omega) only [zg_up_out, zi_PS_o, zi_PU_o]; exact hP0 _ (by omega) j) | rfl) (by omega) (by simp only [zn_n]; omega) ?_
  refine zg_dup zd_Tree_init_66 rfl ?_
  refine zg_cI zd_Tree_init_67 zM_Shape_init rfl zw_164 zi_Shape_init rfl (ci_Shape (a := 200) (N := 201) rfl (Or.inl rfl) (fun b hb j => hV0 b (by omega) j)) (by decide) (by decide) (by omega) (by first | omega | (simp only [zn_n]; omega)) (Nat.le_of_ble_eq_true rfl) ?_
  refine zg_putF zd_Tree_init_70 zf_296 rfl rfl rfl (by omega) (by first | assumption | rfl) rfl ?_
  refine zg_al0 zd_Tree_init_73 ?_
  refine zg_new (ci := 6) zd_Tree_init_74 (by decide) zw_162 zw_163 zw_7 (by first | assumption | rfl) (fun j => by first | exact hV0 _ (by omega) j | (simp (disch := omega) only [zg_u_out, zv_fill_o, zf_set_o]; exact hV0 _ (by omega) j) | rfl) (fun j => by first | exact hP0 _ (by omega) j | (simp (disch := omega) only [zg_up_out, zi_PS_o, zi_PU_o]; exact hP0 _ (by omega) j) | rfl) (by omega) (by simp only [zn_n]; omega) ?_
  refine zg_dup zd_Tree_init_77 rfl ?_
  refine zg_cI zd_Tree_init_78 zM_Shape_init rfl zw_164 zi_Shape_init rfl (ci_Shape (a := 202) (N := 203) rfl (Or.inr (Or.inl rfl)) (fun b hb j => by simp (disch := omega) only [zv_fill_o]; exact hV0 b (by omega) j)) (by decide) (by decide) (by omega) (by first | omega | (simp only [zn_n]; omega)) (Nat.le_of_ble_eq_true rfl) ?_
  refine zg_putF zd_Tree_init_81 zf_297 rfl rfl rfl (by omega) (by first | assumption | rfl) rfl ?_
  refine zg_al0 zd_Tree_init_84 ?_
  refine zg_new (ci := 7) zd_Tree_init_85 (by decide) zw_178 zw_179 zw_8 (by first | assumption | rfl) (fun j => by first | exact hV0 _ (by omega) j | (simp (disch := omega) only [zg_u_out, zv_fill_o, zf_set_o]; exact hV0 _ (by omega) j) | rfl) (fun j => by first | exact hP0 _ (by omega) j | (simp (disch := omega) only [zg_up_out, zi_PS_o, zi_PU_o]; exact hP0 _ (by omega) j) | rfl) (by omega) (by simp only [zn_n]; omega) ?_
  refine zg_dup zd_Tree_init_88 rfl ?_
  refine zg_cI zd_Tree_init_89 zM_SplitSearch_init rfl zw_180 zi_SplitSearch_init rfl (ci_Split (fun b hb j => by simp (disch := omega) only [zv_fill_o]; exact hV0 b (by omega) j) (fun b hb j => by simp (disch := omega) only [zg_up_out]; exact hP0 b (by omega) j)) (by decide) (by decide) (by omega) (by first | omega | (simp only [zn_n]; omega)) (Nat.le_of_ble_eq_true rfl) ?_
  refine zg_putF zd_Tree_init_92 zf_298 rfl rfl rfl (by omega) (by first | assumption | rfl) rfl ?_
  refine zg_al0 zd_Tree_init_95 ?_
  refine zg_new (ci := 9) zd_Tree_init_96 (by decide) zw_218 zw_219 zw_10 (by first | assumption | rfl) (fun j => by first | exact hV0 _ (by omega) j | (simp (disch := omega) only [zg_u_out, zv_fill_o, zf_set_o]; exact hV0 _ (by omega) j) | rfl) (fun j => by first | exact hP0 _ (by omega) j | (simp (disch := omega) only [zg_up_out, zi_PS_o, zi_PU_o]; exact hP0 _ (by omega) j) | rfl) (by omega) (by simp only [zn_n]; omega) ?_
  refine zg_dup zd_Tree_init_99 rfl ?_
  refine zg_cI zd_Tree_init_100 zM_StandInSearch_init rfl zw_220 zi_StandInSearch_init rfl (ci_Stand (fun b hb j => by simp (disch := omega) only [zv_fill_o, zf_set_o]; exact hV0 b (by omega) j) (fun b hb j => by simp (disch := omega) only [zg_up_out, zi_PS_o]; exact hP0 b (by omega) j)) (by decide) (by decide) (by omega) (by first | omega | (simp only [zn_n]; omega)) (Nat.le_of_ble_eq_true rfl) ?_
  refine zg_putF zd_Tree_init_103 zf_299 rfl rfl rfl (by omega) (by first | assumption | rfl) rfl ?_
  refine zg_al0 zd_Tree_init_106 ?_
  refine zg_new (ci := 10) zd_Tree_init_107 (by decide) zw_235 zw_236 zw_11 (by first | assumption | rfl) (fun j => by first | exact hV0 _ (by omega) j | (simp (disch := omega) only [zg_u_out, zv_fill_o, zf_set_o]; exact hV0 _ (by omega) j) | rfl) (fun j => by first | exact hP0 _ (by omega) j | (simp (disch := omega) only [zg_up_out, zi_PS_o, zi_PU_o]; exact hP0 _ (by omega) j) | rfl) (by omega) (by simp only [zn_n]; omega) ?_
  refine zg_dup zd_Tree_init_110 rfl ?_
  refine zg_cI zd_Tree_init_111 zM_Cutter_init rfl zw_237 zi_Cutter_init rfl (ci_Cutter (fun b hb j => by simp (disch := omega) only [zv_fill_o, zf_set_o]; exact hV0 b (by omega) j) (fun b hb j => by simp (disch := omega) only [zg_up_out, zi_PS_o, zi_PU_o]; exact hP0 b (by omega) j)) (by decide) (by decide) (by omega) (by first | omega | (simp only [zn_n]; omega)) (Nat.le_of_ble_eq_true rfl) ?_
  refine zg_putF zd_Tree_init_114 zf_300 rfl rfl rfl (by omega) (by first | assumption | rfl) rfl ?_
  refine zg_al0 zd_Tree_init_117 ?_
  refine zg_iconst zd_Tree_init_118 ?_
  refine zg_newi zd_Tree_init_119 (n := 3) rfl rfl (by decide) (fun j => by unfold zi_VC; simp (disch := omega) only [zv_fill_o, zf_set_o]; exact hV0 222 (by omega) j) (by omega) (by simp only [zn_n]; omega) ?_
  refine zg_putF zd_Tree_init_121 zf_301 rfl rfl rfl (by omega) (by first | assumption | rfl) rfl ?_
  refine zg_al0 zd_Tree_init_124 ?_
  refine zg_iconst zd_Tree_init_125 ?_
  refine zg_puti zd_Tree_init_126 zf_303 rfl (by omega) (by first | assumption | rfl) rfl ?_
  refine zg_al0 zd_Tree_init_129 ?_
  refine zg_iconst zd_Tree_init_130 ?_
  refine zg_puti zd_Tree_init_131 zf_304 rfl (by omega) (by first | assumption | rfl) rfl ?_
  refine zg_al0 zd_Tree_init_134 ?_
  refine zg_iconst zd_Tree_init_135 ?_
  refine zg_puti zd_Tree_init_136 zf_305 rfl (by omega) (by first | assumption | rfl) rfl ?_
  exact zg_bud (Nat.zero_le _) (Nat.zero_le _) fin
end ZT85

