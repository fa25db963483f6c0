/-! the constructors of the tree and of the reference -/
theorem zi_VA_0 {b : Nat} (j : Nat) : zi_VA b j = 0 := by
  unfold zi_VA zg_u zi_V0
  split
  · split <;> rfl
  · rfl
theorem zi_NV_at (V : zg_V) : ∀ k b j, (∀ b j, V b j = 0) → (zi_NV k V b j = 0 ∨ (zi_NV k V b j = 1 ∧ ∃ i, i < k ∧ b = 41 + 5 * i))
  | 0, b, j, h => Or.inl (h b j)
  | k + 1, b, j, h => by
    show zf_set (zi_NV k V) (40 + 5 * k + 1) 0 1 b j = 0 ∨ _
    by_cases e : b = 40 + 5 * k + 1
    · subst e
      unfold zf_set
      by_cases q : j = 1
      · subst q; right; exact ⟨by show zf_set (zi_NV k V) (40 + 5 * k + 1) 0 1 _ 1 = 1; unfold zf_set; rw [zg_u_in], k, by omega, by omega⟩
      · rw [zg_u_off _ _ _ _ q]
        by_cases q0 : j = 0
        · subst q0; left; rw [zg_u_in]
        · rw [zg_u_off _ _ _ _ q0]
          rcases zi_NV_at V k (40 + 5 * k + 1) j h with z | ⟨z, i, i1, i2⟩
          · exact Or.inl z
          · omega
    · rw [zf_set_o _ _ _ _ e]
      rcases zi_NV_at V k b j h with z | ⟨z, i, i1, i2⟩
      · exact Or.inl z
      · right
        exact ⟨by show zf_set (zi_NV k V) (40 + 5 * k + 1) 0 1 b j = 1; rw [zf_set_o _ _ _ _ e]; exact z, i, by omega, i2⟩
/-- the numbers before the tree starts -/
def zi_U : zg_V := zi_VD (zi_NV 32 zi_VA)
theorem zi_U_0 {b : Nat} (h0 : b ≠ 0) (h1 : b ≠ 201) (h2 : b ≠ 203) (h3 : b ≠ 209) (h4 : b ≠ 215) (h5 : b ≠ 217) (h6 : b ≠ 218) (h7 : ∀ i, i < 32 → b ≠ 41 + 5 * i) (j : Nat) : zi_U b j = 0 := by
  unfold zi_U zi_VD zi_VC
  rw [zg_u_out _ _ _ _ h0, zg_u_out _ _ _ _ h0, zg_u_out _ _ _ _ h0, zf_set_o _ _ _ _ h6, zv_fill_o _ _ _ _ h5, zf_set_o _ _ _ _ h4, zf_set_o _ _ _ _ h3, zv_fill_o _ _ _ _ h2, zv_fill_o _ _ _ _ h1, zi_NV_o _ 32 (Or.inr (Or.inr h7))]
  exact zi_VA_0 j
theorem zi_U_f : zi_U 0 10 = 0 ∧ zi_U 0 11 = 4 ∧ zi_U 0 12 = 1 := by
  unfold zi_U zi_VD
  refine ⟨?_, ?_, ?_⟩
  · rw [zg_u_off _ _ _ _ (by decide), zg_u_off _ _ _ _ (by decide), zg_u_in]
  · rw [zg_u_off _ _ _ _ (by decide), zg_u_in]
  · rw [zg_u_in]
theorem zi_U_S : zj_S zi_U := by
  have e3 : ∀ k, k < 32 → zi_U 203 k = -1 := fun k hk => by
    unfold zi_U zi_VD zi_VC
    rw [zg_u_out _ _ _ _ (by decide), zg_u_out _ _ _ _ (by decide), zg_u_out _ _ _ _ (by decide), zf_set_o _ _ _ _ (by decide), zv_fill_o _ _ _ _ (by decide), zf_set_o _ _ _ _ (by decide), zf_set_o _ _ _ _ (by decide)]
    simp [zv_fill, hk]
  have e7 : ∀ k, k < 32 → zi_U 217 k = -1 := fun k hk => by
    unfold zi_U zi_VD zi_VC
    rw [zg_u_out _ _ _ _ (by decide), zg_u_out _ _ _ _ (by decide), zg_u_out _ _ _ _ (by decide), zf_set_o _ _ _ _ (by decide)]
    simp [zv_fill, hk]
  exact ⟨fun k hk => by rw [e3 k hk]; omega, fun k hk => by rw [e7 k hk]; omega, by rw [e7 0 (by decide)]; decide⟩
theorem zi_U_T : zt_T zi_U 0 := by
  have z : ∀ b, 1 ≤ b → b < 40 → ∀ j, zi_U b j = 0 := fun b b1 b2 j => zi_U_0 (by omega) (by omega) (by omega) (by omega) (by omega) (by omega) (by omega) (fun i hi => by omega) j
  refine ⟨by rw [z 1 (by decide) (by decide)]; rfl, by decide, fun r f hr hf => by rw [z (3 + r) (by omega) (by omega)]; omega, fun r hr => by rw [z 19 (by decide) (by decide)]; omega, fun r hr => by rw [z 20 (by decide) (by decide)]; omega, ?_⟩
  show (0 : Int) ≤ 16
  omega
section ZT86
variable {Γ : zg_C}
theorem ci_Tree : zg_S Γ zm_Tree_init 5 222 1151 [zg_r Γ 0] zk_K 1 zi_0 zi_V0 (zq_p zk_K 223 (zg_up zi_Pn 0 9 (some 200)) (zt_an zi_U 0) none) := by
  have loop : ∀ (j k : Nat), k + j = 32 → zg_G Γ (fun _ => True) zm_Tree_init (zg_rm 5 222 1151) (zg_Ω Γ (zq_p zk_K 223 (zg_up zi_Pn 0 9 (some 200)) (zt_an zi_U 0) none) 222 1151) (183 - 5 * k) (938 - 21 * k) 37 [some (zg_r Γ (0)), some (zg_i ((k : Nat)))] [] zk_K (40 + 5 * k) (zi_NP k zi_PA) (zi_NV k zi_VA) := by
    intro j
    induction j with
    | zero =>
      intro k hkj
      have e : k = 32 := by omega
      subst e
      have go := ci_TreeC (Γ := Γ) (V := zi_NV 32 zi_VA) (P := zi_NP 32 zi_PA) (fun b hb j => by rw [zi_NV_o _ 32 (Or.inr (Or.inl (by omega)))]; exact zi_VA_0 j) (fun b hb j => by
        rw [zi_NP_o _ (by omega) 32 (by omega)]
        unfold zi_PA zi_PB zi_PT
        simp (disch := omega) only [zg_up_out, zg_upR_out]
        rfl) zi_PE zi_U_T
      refine zg_il1 zd_Tree_init_37 ?_
      refine zg_bipush zd_Tree_init_38 (by decide) ?_
      refine zg_icmp_ge (tgt := 62) zd_Tree_init_40 (by decide) (by omega) (by omega) (fun b40 => ?_) (fun b40 => ?_)
      · exact go
      · omega
    | succ j ih =>
      intro k hkj
      have hk : k < 32 := by omega
      have kn := (zk_node k hk).1
      have hp2 : zi_NP k zi_PA 0 2 = some 39 := by rw [zi_NP_o _ (by decide) k (by omega)]; rfl
      have go := ih (k + 1) (by omega)
      rw [show 40 + 5 * (k + 1) = 40 + 5 * k + 1 + 4 by omega] at go
      have hV0 : ∀ b, 40 + 5 * k ≤ b → ∀ j, zi_NV k zi_VA b j = 0 := fun b hb j => by rw [zi_NV_o _ k (Or.inr (Or.inl hb))]; exact zi_VA_0 j
      have hP0 : ∀ b, 40 + 5 * k ≤ b → ∀ j, zi_NP k zi_PA b j = none := fun b hb j => by
        rw [zi_NP_o _ (by omega) k (by omega)]
        unfold zi_PA zi_PB zi_PT
        simp (disch := omega) only [zg_up_out, zg_upR_out]
        rfl
      refine zg_il1 zd_Tree_init_37 ?_
      refine zg_bipush zd_Tree_init_38 (by decide) ?_
      refine zg_icmp_ge (tgt := 62) zd_Tree_init_40 (by decide) (by omega) (by omega) (fun b40 => ?_) (fun b40 => ?_)
      · omega
      · refine zg_al0 zd_Tree_init_43 ?_
        refine zg_getr zd_Tree_init_44 zf_295 (by omega) (by first | assumption | rfl) rfl (by first | assumption | rfl) ?_
        refine zg_il1 zd_Tree_init_47 ?_
        refine zg_new (ci := 3) zd_Tree_init_48 (by decide) zw_65 zw_67 zw_4 (by first | assumption | rfl) (fun j => by first | exact hV0 _ (by omega) j | (simp (disch := omega) only [zg_u_out, zv_fill_o, zf_set_o]; exact hV0 _ (by omega) j) | rfl) (fun j => by first | exact hP0 _ (by omega) j | (simp (disch := omega) only [zg_up_out]; exact hP0 _ (by omega) j) | rfl) (by omega) (by simp only [zn_n]; omega) ?_
        refine zg_dup zd_Tree_init_51 rfl ?_
        refine zg_cI zd_Tree_init_52 zM_Node_init rfl zw_68 zi_Node_init rfl (ci_Node (k := k) hk rfl rfl (fun b hb j => hV0 b (by omega) j) (fun b hb j => hP0 b (by omega) j)) (by decide) (by decide) (by omega) (by first | omega | (simp only [zn_n]; omega)) (Nat.le_of_ble_eq_true rfl) ?_
        refine zg_aast (j := k) (t := 0) (ci := 3) (n := 32) zd_Tree_init_55 (by omega) rfl (by decide) rfl (by omega) kn rfl (by omega) (by decide) ?_
        refine zg_inc1 zd_Tree_init_56 (fun w h => by cases h <;> rfl) (by decide) ?_
        refine zg_goto (tgt := 37) zd_Tree_init_59 (by decide) ?_
        exact zg_bud (by omega) (by simp only [zn_n]; omega) go
  have go := loop 32 0 (by omega)
  refine zg_enter 1 (by decide) (Nat.le_of_ble_eq_true rfl) rfl ?_
  refine zg_al0 zd_Tree_init_0 ?_
  refine zg_obj zd_Tree_init_1 zw_20 (by decide) (by decide) ?_
  refine zg_al0 zd_Tree_init_4 ?_
  refine zg_new (ci := 1) zd_Tree_init_5 (by decide) zw_23 zw_24 zw_2 (by first | assumption | rfl) (fun j => by first | exact hV0 _ (by omega) j | (simp (disch := omega) only [zg_u_out, zv_fill_o, zf_set_o]; exact hV0 _ (by omega) j) | rfl) (fun j => by first | exact hP0 _ (by omega) j | (simp (disch := omega) only [zg_up_out]; exact hP0 _ (by omega) j) | rfl) (by omega) (by simp only [zn_n]; omega) ?_
  refine zg_dup zd_Tree_init_8 rfl ?_
  refine zg_cI zd_Tree_init_9 zM_Table_init rfl zw_25 zi_Table_init rfl (ci_Table (fun b hb j => rfl) (fun b hb j => rfl)) (by decide) (by decide) (by omega) (by first | omega | (simp only [zn_n]; omega)) (Nat.le_of_ble_eq_true rfl) ?_
  refine zg_putF zd_Tree_init_12 zf_293 rfl rfl rfl (by omega) (by first | assumption | rfl) rfl ?_
  refine zg_al0 zd_Tree_init_15 ?_
  refine zg_new (ci := 2) zd_Tree_init_16 (by decide) zw_53 zw_54 zw_3 (by first | assumption | rfl) (fun j => by first | exact hV0 _ (by omega) j | (simp (disch := omega) only [zg_u_out, zv_fill_o, zf_set_o]; exact hV0 _ (by omega) j) | rfl) (fun j => by first | exact hP0 _ (by omega) j | (simp (disch := omega) only [zg_up_out]; exact hP0 _ (by omega) j) | rfl) (by omega) (by simp only [zn_n]; omega) ?_
  refine zg_dup zd_Tree_init_19 rfl ?_
  refine zg_cI zd_Tree_init_20 zM_Ballot_init rfl zw_55 zi_Ballot_init rfl (ci_Ballot (fun b hb j => by rw [zg_u_out _ _ _ _ (by omega)]; rfl) (fun b hb j => by
  unfold zi_PT
  simp (disch := omega) only [zg_up_out, zg_upR_out]
  rfl)) (by decide) (by decide) (by omega) (by first | omega | (simp only [zn_n]; omega)) (Nat.le_of_ble_eq_true rfl) ?_
  refine zg_putF zd_Tree_init_23 zf_294 rfl rfl rfl (by omega) (by first | assumption | rfl) rfl ?_
  refine zg_al0 zd_Tree_init_26 ?_
  refine zg_bipush zd_Tree_init_27 (by decide) ?_
  refine zg_newr (t := 0) zd_Tree_init_29 zw_65 (fun _ h => h.1) rfl (by first | assumption | rfl) (by rfl) (by decide) (fun j => by first | exact hP0 _ (by omega) j | (simp (disch := omega) only [zg_up_out]; exact hP0 _ (by omega) j) | rfl) (by omega) (by first | omega | (simp only [zn_n]; omega)) ?_
  refine zg_putF zd_Tree_init_32 zf_295 rfl rfl rfl (by omega) (by first | assumption | rfl) rfl ?_
  refine zg_iconst zd_Tree_init_35 ?_
  refine zg_is1 zd_Tree_init_36 (fun w h => by cases h <;> rfl) (by decide) ?_
  exact zg_bud (by decide) (by decide) go
/-- the reference's references -/
def zi_PQ (P : zg_P) : zg_P := zg_up (zg_up (zg_up (zg_up (zg_up (zg_up (zg_up (zg_up (zg_up (zg_up (zg_up (zg_up (zg_up (zg_up (zg_up (zg_up (zg_up (zg_up P 223 1 (some 224)) 223 2 (some 225)) 223 3 (some 226)) 223 4 (some 227)) 223 8 (some 228)) 223 9 (some 229)) 223 10 (some 230)) 223 11 (some 231)) 223 20 (some 232)) 223 21 (some 233)) 223 22 (some 234)) 223 23 (some 235)) 223 27 (some 236)) 223 28 (some 237)) 223 29 (some 238)) 223 30 (some 239)) 223 32 (some 240)) 223 33 (some 241)
theorem zi_PQE : zi_PQ (zg_up zi_Pn 0 9 (some 200)) = zk_P 200 := by
  have key : ∀ j, j < 34 → zi_PQ (zg_up zi_Pn 0 9 (some 200)) 223 j = zk_P 200 223 j := by decide +kernel
  have out : ∀ a, a ≠ 223 → zi_PQ (zg_up zi_Pn 0 9 (some 200)) a = zg_up zi_Pn 0 9 (some 200) a := fun a ha => by
    unfold zi_PQ
    simp (disch := omega) only [zg_up_out]
  have far : ∀ a, 224 ≤ a → ∀ j, zk_P 200 a j = none := fun a ha j => by
    have hb : ∀ c, c < 224 → Nat.beq a c = false := fun c hc => by
      cases hq : Nat.beq a c
      · rfl
      · have := Nat.eq_of_beq_eq_true hq; omega
    have hl : ∀ c, c ≤ 224 → Nat.blt a c = false := fun c hc => by
      cases hq : Nat.blt a c
      · rfl
      · have := Nat.le_of_ble_eq_true hq; omega
    unfold zk_P
    simp only [hl 40 (by decide), hl 200 (by decide), hb 200 (by decide), hb 202 (by decide), hb 204 (by decide), hb 205 (by decide), hb 210 (by decide), hb 211 (by decide), hb 214 (by decide), hb 216 (by decide), hb 223 (by decide), cond_false]
  funext a j
  by_cases e : a = 223
  · subst e
    by_cases hj : j < 34
    · exact key j hj
    · rw [zk_P_j 200 223 (by omega)]
      unfold zi_PQ
      simp (disch := omega) only [zg_up_off]
      rfl
  · rw [out a e]
    by_cases h0 : a = 0
    · subst h0
      by_cases h9 : j = 9
      · subst h9; rw [zg_up_in]; rfl
      · rw [zg_up_off _ _ _ _ h9]
        unfold zi_Pn
        rw [if_pos (by decide), if_pos rfl, if_neg h9]
    · rw [zg_up_out _ _ _ _ h0]
      by_cases ha : a < 223
      · rw [zi_Pn_o ha h0]
      · rw [far a (by omega)]
        unfold zi_Pn
        rw [if_neg ha]
theorem ci_Ref {V : zg_V} {P : zg_P} (hV0 : ∀ b, 224 ≤ b → ∀ j, V b j = 0) (h223 : ∀ j, V 223 j = 0) (hPe : zi_PQ P = zk_P 200) : zg_S Γ zm_Ref_init 1 18 440 [zg_r Γ 223] zk_K 224 P V (zq_r zk_K 242 (zk_P 200) (fun rr V' => rr = none ∧ zr_an (zg_u (zg_u V 223 6 4) 223 7 1) V' 0)) := by
  have fin : zg_G Γ (fun _ => True) zm_Ref_init (zg_rm 1 18 440) (zg_Ω Γ (zq_r zk_K 242 (zk_P 200) (fun rr V' => rr = none ∧ zr_an (zg_u (zg_u V 223 6 4) 223 7 1) V' 0)) 18 440) 0 0 154 [some (zg_r Γ (223))] [] zk_K (242) (zi_PQ P) (zg_u (zg_u V 223 6 4) 223 7 1) := by
    rw [hPe]
    have e0 : zg_u (zg_u V 223 6 4) 223 7 1 223 0 = ((0 : Nat) : Int) := by rw [zg_u_off _ _ _ _ (by decide), zg_u_off _ _ _ _ (by decide), h223]; rfl
    refine zg_al0 zd_Ref_init_154 ?_
    refine zg_cVr0 zd_Ref_init_155 zM_Ref_anew zw_637 zi_Ref_anew zs_Ref_anew (cr_anew e0 (by decide) (fun r hr => by rw [zg_u_out _ _ _ _ (by decide), zg_u_out _ _ _ _ (by decide), hV0 226 (by decide)]; omega)) (by decide) (by decide) (by omega) (by first | assumption | rfl) (by decide) rfl (Nat.le_of_ble_eq_true rfl) ?_
    intro r V' hq
    obtain ⟨rfl, hq⟩ := hq
    refine zg_return zd_Ref_init_158 rfl ?_
    exact ⟨rfl, rfl, rfl, rfl, hq⟩
  refine zg_enter 0 (by decide) (Nat.le_of_ble_eq_true rfl) rfl ?_
  refine zg_al0 zd_Ref_init_0 ?_
  refine zg_obj zd_Ref_init_1 zw_636 (by decide) (by decide) ?_
  refine zg_al0 zd_Ref_init_4 ?_
  refine zg_bipush zd_Ref_init_5 (by decide) ?_
  refine zg_newi zd_Ref_init_7 (by first | assumption | rfl) (by rfl) (by decide) (fun j => by first | exact hV0 _ (by omega) j | (simp (disch := omega) only [zg_u_out, zv_fill_o, zf_set_o]; exact hV0 _ (by omega) j) | rfl) (by omega) (by first | omega | (simp only [zn_n]; omega)) ?_
  refine zg_putr zd_Ref_init_9 zf_642 rfl (by omega) (by first | assumption | rfl) rfl ?_
  refine zg_al0 zd_Ref_init_12 ?_
  refine zg_bipush zd_Ref_init_13 (by decide) ?_
  refine zg_newi zd_Ref_init_15 (by first | assumption | rfl) (by rfl) (by decide) (fun j => by first | exact hV0 _ (by omega) j | (simp (disch := omega) only [zg_u_out, zv_fill_o, zf_set_o]; exact hV0 _ (by omega) j) | rfl) (by omega) (by first | omega | (simp only [zn_n]; omega)) ?_
  refine zg_putr zd_Ref_init_17 zf_643 rfl (by omega) (by first | assumption | rfl) rfl ?_
  refine zg_al0 zd_Ref_init_20 ?_
  refine zg_bipush zd_Ref_init_21 (by decide) ?_
  refine zg_newi zd_Ref_init_23 (by first | assumption | rfl) (by rfl) (by decide) (fun j => by first | exact hV0 _ (by omega) j | (simp (disch := omega) only [zg_u_out, zv_fill_o, zf_set_o]; exact hV0 _ (by omega) j) | rfl) (by omega) (by first | omega | (simp only [zn_n]; omega)) ?_
  refine zg_putr zd_Ref_init_25 zf_644 rfl (by omega) (by first | assumption | rfl) rfl ?_
  refine zg_al0 zd_Ref_init_28 ?_
  refine zg_bipush zd_Ref_init_29 (by decide) ?_
  refine zg_newi zd_Ref_init_31 (by first | assumption | rfl) (by rfl) (by decide) (fun j => by first | exact hV0 _ (by omega) j | (simp (disch := omega) only [zg_u_out, zv_fill_o, zf_set_o]; exact hV0 _ (by omega) j) | rfl) (by omega) (by first | omega | (simp only [zn_n]; omega)) ?_
  refine zg_putr zd_Ref_init_33 zf_645 rfl (by omega) (by first | assumption | rfl) rfl ?_
  refine zg_al0 zd_Ref_init_36 ?_
  refine zg_iconst zd_Ref_init_37 ?_
  refine zg_puti zd_Ref_init_38 zf_647 rfl (by omega) (by first | assumption | rfl) rfl ?_
  refine zg_al0 zd_Ref_init_41 ?_
  refine zg_iconst zd_Ref_init_42 ?_
  refine zg_puti zd_Ref_init_43 zf_648 rfl (by omega) (by first | assumption | rfl) rfl ?_
  refine zg_al0 zd_Ref_init_46 ?_
  refine zg_bipush zd_Ref_init_47 (by decide) ?_
  refine zg_newi zd_Ref_init_49 (by first | assumption | rfl) (by rfl) (by decide) (fun j => by first | exact hV0 _ (by omega) j | (simp (disch := omega) only [zg_u_out, zv_fill_o, zf_set_o]; exact hV0 _ (by omega) j) | rfl) (by omega) (by first | omega | (simp only [zn_n]; omega)) ?_
  refine zg_putr zd_Ref_init_51 zf_649 rfl (by omega) (by first | assumption | rfl) rfl ?_
  refine zg_al0 zd_Ref_init_54 ?_
  refine zg_bipush zd_Ref_init_55 (by decide) ?_
  refine zg_newi zd_Ref_init_57 (by first | assumption | rfl) (by rfl) (by decide) (fun j => by first | exact hV0 _ (by omega) j | (simp (disch := omega) only [zg_u_out, zv_fill_o, zf_set_o]; exact hV0 _ (by omega) j) | rfl) (by omega) (by first | omega | (simp only [zn_n]; omega)) ?_
  refine zg_putr zd_Ref_init_59 zf_650 rfl (by omega) (by first | assumption | rfl) rfl ?_
  refine zg_al0 zd_Ref_init_62 ?_
  refine zg_bipush zd_Ref_init_63 (by decide) ?_
  refine zg_newi zd_Ref_init_65 (by first | assumption | rfl) (by rfl) (by decide) (fun j => by first | exact hV0 _ (by omega) j | (simp (disch := omega) only [zg_u_out, zv_fill_o, zf_set_o]; exact hV0 _ (by omega) j) | rfl) (by omega) (by first | omega | (simp only [zn_n]; omega)) ?_
  refine zg_putr zd_Ref_init_67 zf_651 rfl (by omega) (by first | assumption | rfl) rfl ?_
  refine zg_al0 zd_Ref_init_70 ?_
  refine zg_bipush zd_Ref_init_71 (by decide) ?_
  refine zg_newi zd_Ref_init_73 (by first | assumption | rfl) (by rfl) (by decide) (fun j => by first | exact hV0 _ (by omega) j | (simp (disch := omega) only [zg_u_out, zv_fill_o, zf_set_o]; exact hV0 _ (by omega) j) | rfl) (by omega) (by first | omega | (simp only [zn_n]; omega)) ?_
  refine zg_putr zd_Ref_init_75 zf_652 rfl (by omega) (by first | assumption | rfl) rfl ?_
  refine zg_al0 zd_Ref_init_78 ?_
  refine zg_iconst zd_Ref_init_79 ?_
  refine zg_newi zd_Ref_init_80 (by first | assumption | rfl) (by rfl) (by decide) (fun j => by first | exact hV0 _ (by omega) j | (simp (disch := omega) only [zg_u_out, zv_fill_o, zf_set_o]; exact hV0 _ (by omega) j) | rfl) (by omega) (by first | omega | (simp only [zn_n]; omega)) ?_
  refine zg_putr zd_Ref_init_82 zf_661 rfl (by omega) (by first | assumption | rfl) rfl ?_
  refine zg_al0 zd_Ref_init_85 ?_
  refine zg_iconst zd_Ref_init_86 ?_
  refine zg_newi zd_Ref_init_87 (by first | assumption | rfl) (by rfl) (by decide) (fun j => by first | exact hV0 _ (by omega) j | (simp (disch := omega) only [zg_u_out, zv_fill_o, zf_set_o]; exact hV0 _ (by omega) j) | rfl) (by omega) (by first | omega | (simp only [zn_n]; omega)) ?_
  refine zg_putr zd_Ref_init_89 zf_662 rfl (by omega) (by first | assumption | rfl) rfl ?_
  refine zg_al0 zd_Ref_init_92 ?_
  refine zg_iconst zd_Ref_init_93 ?_
  refine zg_newi zd_Ref_init_94 (by first | assumption | rfl) (by rfl) (by decide) (fun j => by first | exact hV0 _ (by omega) j | (simp (disch := omega) only [zg_u_out, zv_fill_o, zf_set_o]; exact hV0 _ (by omega) j) | rfl) (by omega) (by first | omega | (simp only [zn_n]; omega)) ?_
  refine zg_putr zd_Ref_init_96 zf_663 rfl (by omega) (by first | assumption | rfl) rfl ?_
  refine zg_al0 zd_Ref_init_99 ?_
  refine zg_iconst zd_Ref_init_100 ?_
  refine zg_newi zd_Ref_init_101 (by first | assumption | rfl) (by rfl) (by decide) (fun j => by first | exact hV0 _ (by omega) j | (simp (disch := omega) only [zg_u_out, zv_fill_o, zf_set_o]; exact hV0 _ (by omega) j) | rfl) (by omega) (by first | omega | (simp only [zn_n]; omega)) ?_
  refine zg_putr zd_Ref_init_103 zf_664 rfl (by omega) (by first | assumption | rfl) rfl ?_
  refine zg_al0 zd_Ref_init_106 ?_
  refine zg_bipush zd_Ref_init_107 (by decide) ?_
  refine zg_newi zd_Ref_init_109 (by first | assumption | rfl) (by rfl) (by decide) (fun j => by first | exact hV0 _ (by omega) j | (simp (disch := omega) only [zg_u_out, zv_fill_o, zf_set_o]; exact hV0 _ (by omega) j) | rfl) (by omega) (by first | omega | (simp only [zn_n]; omega)) ?_
  refine zg_putr zd_Ref_init_111 zf_668 rfl (by omega) (by first | assumption | rfl) rfl ?_
  refine zg_al0 zd_Ref_init_114 ?_
  refine zg_bipush zd_Ref_init_115 (by decide) ?_
  refine zg_newl zd_Ref_init_117 (by first | assumption | rfl) (by rfl) (by decide) (fun j => by first | exact hV0 _ (by omega) j | (simp (disch := omega) only [zg_u_out, zv_fill_o, zf_set_o]; exact hV0 _ (by omega) j) | rfl) (by omega) (by first | omega | (simp only [zn_n]; omega)) ?_
  refine zg_putr zd_Ref_init_119 zf_669 rfl (by omega) (by first | assumption | rfl) rfl ?_
  refine zg_al0 zd_Ref_init_122 ?_
  refine zg_bipush zd_Ref_init_123 (by decide) ?_
  refine zg_newi zd_Ref_init_125 (by first | assumption | rfl) (by rfl) (by decide) (fun j => by first | exact hV0 _ (by omega) j | (simp (disch := omega) only [zg_u_out, zv_fill_o, zf_set_o]; exact hV0 _ (by omega) j) | rfl) (by omega) (by first | omega | (simp only [zn_n]; omega)) ?_
  refine zg_putr zd_Ref_init_127 zf_670 rfl (by omega) (by first | assumption | rfl) rfl ?_
  refine zg_al0 zd_Ref_init_130 ?_
  refine zg_bipush zd_Ref_init_131 (by decide) ?_
  refine zg_newz zd_Ref_init_133 (by first | assumption | rfl) (by rfl) (by decide) (fun j => by first | exact hV0 _ (by omega) j | (simp (disch := omega) only [zg_u_out, zv_fill_o, zf_set_o]; exact hV0 _ (by omega) j) | rfl) (by omega) (by first | omega | (simp only [zn_n]; omega)) ?_
  refine zg_putr zd_Ref_init_135 zf_671 rfl (by omega) (by first | assumption | rfl) rfl ?_
  refine zg_al0 zd_Ref_init_138 ?_
  refine zg_bipush zd_Ref_init_139 (by decide) ?_
  refine zg_newi zd_Ref_init_141 (by first | assumption | rfl) (by rfl) (by decide) (fun j => by first | exact hV0 _ (by omega) j | (simp (disch := omega) only [zg_u_out, zv_fill_o, zf_set_o]; exact hV0 _ (by omega) j) | rfl) (by omega) (by first | omega | (simp only [zn_n]; omega)) ?_
  refine zg_putr zd_Ref_init_143 zf_673 rfl (by omega) (by first | assumption | rfl) rfl ?_
  refine zg_al0 zd_Ref_init_146 ?_
  refine zg_bipush zd_Ref_init_147 (by decide) ?_
  refine zg_newi zd_Ref_init_149 (by first | assumption | rfl) (by rfl) (by decide) (fun j => by first | exact hV0 _ (by omega) j | (simp (disch := omega) only [zg_u_out, zv_fill_o, zf_set_o]; exact hV0 _ (by omega) j) | rfl) (by omega) (by first | omega | (simp only [zn_n]; omega)) ?_
  refine zg_putr zd_Ref_init_151 zf_674 rfl (by omega) (by first | assumption | rfl) rfl ?_
  exact zg_bud (Nat.zero_le _) (Nat.zero_le _) fin
end ZT86

