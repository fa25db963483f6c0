/-! the class's cells, all made, nothing shown yet -/
def zi_Pn : zg_P := fun a j => if a < 223 then (if a = 0 then (if j = 9 then none else zk_P 200 0 j) else zk_P 200 a j) else none
theorem zi_Pn_o {a : Nat} (h : a < 223) (h0 : a ≠ 0) : zi_Pn a = zk_P 200 a := by
  funext j
  unfold zi_Pn
  rw [if_pos h, if_neg h0]
theorem zi_nodes {k : Nat} (h : k < 32) : zi_Pn 39 k = some (40 + 5 * k) := by rw [zi_Pn_o (by decide) (by decide)]; exact zp_nodes h
theorem zi_values {r : Nat} (h : r < 16) : zi_Pn 2 r = some (3 + r) := by rw [zi_Pn_o (by decide) (by decide)]; exact zp_values h
/-! the contracts behind startAnew, for any number of cells from 223 on (written by wip/gen/mkn.py) -/
section ZT80
variable {Γ : zg_C} {V : zg_V} {a k : Nat}
theorem ci_weightOf {N : Nat} (hN : 223 ≤ N) {s n : Nat} (hs : s < 65536) (hT : zt_T V n) : zg_S Γ zm_Table_weightOf 1 0 0 [zg_r Γ 1, zg_i s] zk_K N zi_Pn V (zq_p zk_K N zi_Pn V (some (zg_i (zt_w (V 20) s n)))) := by
  obtain ⟨hn, hn16, -⟩ := hT
  refine zg_enter 2 (by decide) (Nat.le_of_ble_eq_true rfl) rfl ?_
  refine zg_iconst zd_Table_weightOf_0 ?_
  refine zg_is2 zd_Table_weightOf_1 (fun w h => by cases h <;> rfl) (by decide) ?_
  refine zg_iconst zd_Table_weightOf_2 ?_
  refine zg_is3 zd_Table_weightOf_3 (fun w h => by cases h <;> rfl) (by decide) ?_
  have key : ∀ (j i : Nat) (hij : i + j = n), zg_G Γ (fun _ => True) zm_Table_weightOf (zg_rm 1 0 0) (zg_Ω Γ (zq_p zk_K N zi_Pn V (some (zg_i (zt_w (V 20) s n)))) 0 0) 0 0 4 [some (zg_r Γ (1)), some (zg_i (s)), some (zg_i (zt_w (V 20) s i)), some (zg_i ((i : Nat)))] [] zk_K (N) (zi_Pn) (V) := by
    intro j
    induction j with
    | zero =>
      intro i hij
      have e : i = n := by omega
      subst e
      refine zg_il3 zd_Table_weightOf_4 ?_
      refine zg_al0 zd_Table_weightOf_5 ?_
      refine zg_geti zd_Table_weightOf_6 zf_39 (by omega) (by first | assumption | rfl) rfl ?_
      rw [hn]
      refine zg_icmp_ge (tgt := 35) zd_Table_weightOf_9 (by decide) (by omega) (by omega) (fun b9 => ?_) (fun b9 => ?_)
      · refine zg_il2 zd_Table_weightOf_35 ?_
        refine zg_ireturn zd_Table_weightOf_36 rfl ?_
        exact ⟨rfl, rfl, rfl, rfl, rfl⟩
      · omega
    | succ j ih =>
      intro i hij
      have ih := ih (i + 1) (by omega)
      rw [zt_w_s] at ih
      refine zg_il3 zd_Table_weightOf_4 ?_
      refine zg_al0 zd_Table_weightOf_5 ?_
      refine zg_geti zd_Table_weightOf_6 zf_39 (by omega) (by first | assumption | rfl) rfl ?_
      rw [hn]
      refine zg_icmp_ge (tgt := 35) zd_Table_weightOf_9 (by decide) (by omega) (by omega) (fun b9 => ?_) (fun b9 => ?_)
      · omega
      · refine zg_il1 zd_Table_weightOf_12 ?_
        refine zg_il3 zd_Table_weightOf_13 ?_
        refine zg_cSp2 zd_Table_weightOf_14 zM_Table_contains zw_286 zi_Table_contains (ct_contains hs (by omega)) (by decide) (by decide) (Nat.le_of_ble_eq_true rfl) ?_
        refine zg_if_eqB (tgt := 29) zd_Table_weightOf_17 (by decide) (fun b17 => ?_) (fun b17 => ?_)
        · refine zg_inc3 zd_Table_weightOf_29 (fun w h => by cases h <;> rfl) (by decide) ?_
          refine zg_goto (tgt := 4) zd_Table_weightOf_32 (by decide) ?_
          first | (rw [if_pos b17] at ih; exact ih) | (rw [b17, if_neg (by decide), Int.add_zero] at ih; exact ih)
        · refine zg_il2 zd_Table_weightOf_20 ?_
          refine zg_al0 zd_Table_weightOf_21 ?_
          refine zg_getr zd_Table_weightOf_22 zf_37 (by omega) (by first | assumption | rfl) rfl (by first | assumption | rfl) ?_
          refine zg_il3 zd_Table_weightOf_25 ?_
          refine zg_iald zd_Table_weightOf_26 (by omega) (by first | assumption | rfl) rfl (by omega) (by decide) ?_
          refine zg_iadd zd_Table_weightOf_27 ?_
          refine zg_is2 zd_Table_weightOf_28 (fun w h => by cases h <;> rfl) (by decide) ?_
          refine zg_inc3 zd_Table_weightOf_29 (fun w h => by cases h <;> rfl) (by decide) ?_
          refine zg_goto (tgt := 4) zd_Table_weightOf_32 (by decide) ?_
          first | (rw [if_pos b17] at ih; exact ih) | (rw [b17, if_neg (by decide), Int.add_zero] at ih; exact ih)
  exact key n 0 (by omega)
theorem ci_weightyRows {N : Nat} (hN : 223 ≤ N) {n : Nat} (hT : zt_T V n) : zg_S Γ zm_Table_weightyRows 0 0 0 [zg_r Γ 1] zk_K N zi_Pn V (zq_p zk_K N zi_Pn V (some (zg_i (zt_pos (V 20) n)))) := by
  obtain ⟨hn, hn16, -, -, hw, -⟩ := hT
  refine zg_enter 2 (by decide) (Nat.le_of_ble_eq_true rfl) rfl ?_
  refine zg_iconst zd_Table_weightyRows_0 ?_
  refine zg_is1 zd_Table_weightyRows_1 (fun w h => by cases h <;> rfl) (by decide) ?_
  refine zg_iconst zd_Table_weightyRows_2 ?_
  refine zg_is2 zd_Table_weightyRows_3 (fun w h => by cases h <;> rfl) (by decide) ?_
  have key : ∀ (j i : Nat) (hij : i + j = n), zg_G Γ (fun _ => True) zm_Table_weightyRows (zg_rm 0 0 0) (zg_Ω Γ (zq_p zk_K N zi_Pn V (some (zg_i (zt_pos (V 20) n)))) 0 0) 0 0 4 [some (zg_r Γ (1)), some (zg_i ((zt_pos (V 20) i : Nat))), some (zg_i ((i : Nat)))] [] zk_K (N) (zi_Pn) (V) := by
    intro j
    induction j with
    | zero =>
      intro i hij
      have e : i = n := by omega
      subst e
      refine zg_il2 zd_Table_weightyRows_4 ?_
      refine zg_al0 zd_Table_weightyRows_5 ?_
      refine zg_geti zd_Table_weightyRows_6 zf_39 (by omega) (by first | assumption | rfl) rfl ?_
      rw [hn]
      refine zg_icmp_ge (tgt := 33) zd_Table_weightyRows_9 (by decide) (by omega) (by omega) (fun b9 => ?_) (fun b9 => ?_)
      · refine zg_il1 zd_Table_weightyRows_33 ?_
        refine zg_ireturn zd_Table_weightyRows_34 rfl ?_
        exact ⟨rfl, rfl, rfl, rfl, rfl⟩
      · omega
    | succ j ih =>
      intro i hij
      have ih := ih (i + 1) (by omega)
      have hwi := hw i (by omega)
      unfold zt_pos at ih ⊢
      rw [zs_mk_s] at ih
      refine zg_il2 zd_Table_weightyRows_4 ?_
      refine zg_al0 zd_Table_weightyRows_5 ?_
      refine zg_geti zd_Table_weightyRows_6 zf_39 (by omega) (by first | assumption | rfl) rfl ?_
      rw [hn]
      refine zg_icmp_ge (tgt := 33) zd_Table_weightyRows_9 (by decide) (by omega) (by omega) (fun b9 => ?_) (fun b9 => ?_)
      · omega
      · refine zg_al0 zd_Table_weightyRows_12 ?_
        refine zg_getr zd_Table_weightyRows_13 zf_37 (by omega) (by first | assumption | rfl) rfl (by first | assumption | rfl) ?_
        refine zg_il2 zd_Table_weightyRows_16 ?_
        refine zg_iald zd_Table_weightyRows_17 (by omega) (by first | assumption | rfl) rfl (by omega) (by decide) ?_
        refine zg_if_le (tgt := 27) zd_Table_weightyRows_18 (by decide) (by omega) (fun b18 => ?_) (fun b18 => ?_)
        · refine zg_inc2 zd_Table_weightyRows_27 (fun w h => by cases h <;> rfl) (by decide) ?_
          refine zg_goto (tgt := 4) zd_Table_weightyRows_30 (by decide) ?_
          first | (rw [if_pos (by simp [zt_va, *] <;> omega)] at ih; exact ih) | (rw [if_neg (by simp [zt_va, *] <;> omega)] at ih; exact ih)
        · refine zg_il1 zd_Table_weightyRows_21 ?_
          refine zg_iconst zd_Table_weightyRows_22 ?_
          refine zg_il2 zd_Table_weightyRows_23 ?_
          refine zg_ishl ((2 ^ i : Nat) : Int) zd_Table_weightyRows_24 (zb_shl i (by omega)) ?_
          refine zg_ior ((zs_mk (fun r => decide (0 < V 20 r)) i ||| 2 ^ i : Nat) : Int) zd_Table_weightyRows_25 (zb_or _ _) ?_
          refine zg_is1 zd_Table_weightyRows_26 (fun w h => by cases h <;> rfl) (by decide) ?_
          refine zg_inc2 zd_Table_weightyRows_27 (fun w h => by cases h <;> rfl) (by decide) ?_
          refine zg_goto (tgt := 4) zd_Table_weightyRows_30 (by decide) ?_
          first | (rw [if_pos (by simp [zt_va, *] <;> omega)] at ih; exact ih) | (rw [if_neg (by simp [zt_va, *] <;> omega)] at ih; exact ih)
  exact key n 0 (by omega)
theorem ci_rowsInClass {N : Nat} (hN : 223 ≤ N) {s n : Nat} {c : Int} (hs : s < 65536) (hc : 0 ≤ c ∧ c < 4) (hT : zt_T V n) : zg_S Γ zm_Table_rowsInClass 1 0 0 [zg_r Γ 1, zg_i s, zg_i c] zk_K N zi_Pn V (zq_p zk_K N zi_Pn V (some (zg_i (zt_cls (V 19) s c n)))) := by
  obtain ⟨hn, hn16, -, hcl, -⟩ := hT
  refine zg_enter 2 (by decide) (Nat.le_of_ble_eq_true rfl) rfl ?_
  refine zg_iconst zd_Table_rowsInClass_0 ?_
  refine zg_is3 zd_Table_rowsInClass_1 (fun w h => by cases h <;> rfl) (by decide) ?_
  refine zg_iconst zd_Table_rowsInClass_2 ?_
  refine zg_is4 zd_Table_rowsInClass_3 (fun w h => by cases h <;> rfl) (by decide) ?_
  have key : ∀ (j i : Nat) (hij : i + j = n), zg_G Γ (fun _ => True) zm_Table_rowsInClass (zg_rm 1 0 0) (zg_Ω Γ (zq_p zk_K N zi_Pn V (some (zg_i (zt_cls (V 19) s c n)))) 0 0) 0 0 5 [some (zg_r Γ (1)), some (zg_i (s)), some (zg_i (c)), some (zg_i ((zt_cls (V 19) s c i : Nat))), some (zg_i ((i : Nat)))] [] zk_K (N) (zi_Pn) (V) := by
    intro j
    induction j with
    | zero =>
      intro i hij
      have e : i = n := by omega
      subst e
      refine zg_il4 zd_Table_rowsInClass_5 ?_
      refine zg_al0 zd_Table_rowsInClass_7 ?_
      refine zg_geti zd_Table_rowsInClass_8 zf_39 (by omega) (by first | assumption | rfl) rfl ?_
      rw [hn]
      refine zg_icmp_ge (tgt := 47) zd_Table_rowsInClass_11 (by decide) (by omega) (by omega) (fun b11 => ?_) (fun b11 => ?_)
      · refine zg_il3 zd_Table_rowsInClass_47 ?_
        refine zg_ireturn zd_Table_rowsInClass_48 rfl ?_
        exact ⟨rfl, rfl, rfl, rfl, rfl⟩
      · omega
    | succ j ih =>
      intro i hij
      have ih := ih (i + 1) (by omega)
      have hci := hcl i (by omega)
      unfold zt_cls at ih ⊢
      rw [zs_mk_s] at ih
      refine zg_il4 zd_Table_rowsInClass_5 ?_
      refine zg_al0 zd_Table_rowsInClass_7 ?_
      refine zg_geti zd_Table_rowsInClass_8 zf_39 (by omega) (by first | assumption | rfl) rfl ?_
      rw [hn]
      refine zg_icmp_ge (tgt := 47) zd_Table_rowsInClass_11 (by decide) (by omega) (by omega) (fun b11 => ?_) (fun b11 => ?_)
      · omega
      · refine zg_il1 zd_Table_rowsInClass_14 ?_
        refine zg_il4 zd_Table_rowsInClass_15 ?_
        refine zg_cSp2 zd_Table_rowsInClass_17 zM_Table_contains zw_286 zi_Table_contains (ct_contains hs (by omega)) (by decide) (by decide) (Nat.le_of_ble_eq_true rfl) ?_
        refine zg_if_eqB (tgt := 41) zd_Table_rowsInClass_20 (by decide) (fun b20 => ?_) (fun b20 => ?_)
        · refine zg_inc4 zd_Table_rowsInClass_41 (fun w h => by cases h <;> rfl) (by decide) ?_
          refine zg_goto (tgt := 5) zd_Table_rowsInClass_44 (by decide) ?_
          first | (rw [if_pos (by simp [zt_va, *] <;> omega)] at ih; exact ih) | (rw [if_neg (by simp [zt_va, *] <;> omega)] at ih; exact ih)
        · refine zg_al0 zd_Table_rowsInClass_23 ?_
          refine zg_getr zd_Table_rowsInClass_24 zf_35 (by omega) (by first | assumption | rfl) rfl (by first | assumption | rfl) ?_
          refine zg_il4 zd_Table_rowsInClass_27 ?_
          refine zg_iald zd_Table_rowsInClass_29 (by omega) (by first | assumption | rfl) rfl (by omega) (by decide) ?_
          refine zg_il2 zd_Table_rowsInClass_30 ?_
          refine zg_icmp_ne (tgt := 41) zd_Table_rowsInClass_31 (by decide) (by omega) (by omega) (fun b31 => ?_) (fun b31 => ?_)
          · refine zg_inc4 zd_Table_rowsInClass_41 (fun w h => by cases h <;> rfl) (by decide) ?_
            refine zg_goto (tgt := 5) zd_Table_rowsInClass_44 (by decide) ?_
            first | (rw [if_pos (by simp [zt_va, *] <;> omega)] at ih; exact ih) | (rw [if_neg (by simp [zt_va, *] <;> omega)] at ih; exact ih)
          · refine zg_il3 zd_Table_rowsInClass_34 ?_
            refine zg_iconst zd_Table_rowsInClass_35 ?_
            refine zg_il4 zd_Table_rowsInClass_36 ?_
            refine zg_ishl ((2 ^ i : Nat) : Int) zd_Table_rowsInClass_38 (zb_shl i (by omega)) ?_
            refine zg_ior ((zs_mk (fun r => s.testBit r && decide (V 19 r = c)) i ||| 2 ^ i : Nat) : Int) zd_Table_rowsInClass_39 (zb_or _ _) ?_
            refine zg_is3 zd_Table_rowsInClass_40 (fun w h => by cases h <;> rfl) (by decide) ?_
            refine zg_inc4 zd_Table_rowsInClass_41 (fun w h => by cases h <;> rfl) (by decide) ?_
            refine zg_goto (tgt := 5) zd_Table_rowsInClass_44 (by decide) ?_
            first | (rw [if_pos (by simp [zt_va, *] <;> omega)] at ih; exact ih) | (rw [if_neg (by simp [zt_va, *] <;> omega)] at ih; exact ih)
  exact key n 0 (by omega)
theorem ci_take {N : Nat} (hN : 223 ≤ N) (hk : k < 32) {s n : Nat} (hs : s < 65536) (hT : zt_T V n) : zg_S Γ zm_Node_takeRows 2 0 0 [zg_r Γ (40 + 5 * k), zg_r Γ 1, zg_i s] zk_K N zi_Pn V (zq_p zk_K N zi_Pn (zt_tk V (40 + 5 * k) s n) none) := by
  have hkn := (zk_node k hk).1
  have hw := hT.2.2.2.2.1
  have hn16 := hT.2.1
  have hc16 : ∀ c : Int, zt_cls (V 19) s c n < 65536 := fun c => zs_mk_lt16 _ hn16
  generalize hQ : zq_p zk_K N zi_Pn (zt_tk V (40 + 5 * k) s n) none = Q
  refine zg_enter 3 (by decide) (Nat.le_of_ble_eq_true rfl) rfl ?_
  refine zg_al0 zd_Node_takeRows_0 ?_
  refine zg_il2 zd_Node_takeRows_1 ?_
  refine zg_puti zd_Node_takeRows_2 zf_117 rfl (by omega) (by first | assumption | rfl) rfl ?_
  refine zg_al0 zd_Node_takeRows_5 ?_
  refine zg_iconst zd_Node_takeRows_6 ?_
  refine zg_puti zd_Node_takeRows_7 zf_121 rfl (by omega) (by first | assumption | rfl) rfl ?_
  refine zg_iconst zd_Node_takeRows_10 ?_
  refine zg_is3 zd_Node_takeRows_11 (fun w h => by cases h <;> rfl) (by decide) ?_
  refine zg_iconst zd_Node_takeRows_12 ?_
  refine zg_is4 zd_Node_takeRows_13 (fun w h => by cases h <;> rfl) (by decide) ?_
  have key : ∀ (j c : Nat) (o5 : Option Value) (hij : c + j = 4), zg_G Γ (fun _ => True) zm_Node_takeRows (zg_rm 2 0 0) (zg_Ω Γ (Q) 0 0) 0 0 15 [some (zg_r Γ (40 + 5 * k)), some (zg_r Γ (1)), some (zg_i (s)), some (zg_i ((zt_mj (V 19) (V 20) s n c).2)), some (zg_i ((c : Nat))), o5] [] zk_K (N) (zi_Pn) (zg_u (zg_u V (40 + 5 * k) 0 (s : Int)) (40 + 5 * k) 1 ((zt_mj (V 19) (V 20) s n c).1 : Int)) := by
    intro j
    induction j with
    | zero =>
      intro c o5 hij
      have e : c = 4 := by omega
      subst e
      generalize hW : zg_u (zg_u V (40 + 5 * k) 0 (s : Int)) (40 + 5 * k) 1 ((zt_mj (V 19) (V 20) s n 4).1 : Int) = U
      have hU : ∀ b, b < 21 → U b = V b := fun b hb => by rw [← hW, zg_u_out _ _ _ _ (by omega), zg_u_out _ _ _ _ (by omega)]
      have hTU := zt_T_fr hU hT
      have hU0 : U (40 + 5 * k) 0 = (s : Int) := by rw [← hW, zg_u_off _ _ _ _ (by decide), zg_u_in]
      have hw20 : U 20 = V 20 := hU 20 (by omega)
      refine zg_il4 zd_Node_takeRows_15 ?_
      refine zg_iconst zd_Node_takeRows_17 ?_
      refine zg_icmp_ge (tgt := 58) zd_Node_takeRows_18 (by decide) (by omega) (by omega) (fun b18 => ?_) (fun b18 => ?_)
      · refine zg_al0 zd_Node_takeRows_58 ?_
        refine zg_al1 zd_Node_takeRows_59 ?_
        refine zg_al0 zd_Node_takeRows_60 ?_
        refine zg_geti zd_Node_takeRows_61 zf_117 (by omega) (by first | assumption | rfl) rfl ?_
        rw [hU0]
        refine zg_cVp1 zd_Node_takeRows_64 zM_Table_weightOf zw_289 zi_Table_weightOf zs_Table_weightOf (ci_weightOf hN hs hTU) (by decide) (by decide) (by omega) (by first | assumption | rfl) (by decide) rfl (Nat.le_of_ble_eq_true rfl) ?_
        rw [hw20]
        refine zg_il3 zd_Node_takeRows_67 ?_
        refine zg_isub zd_Node_takeRows_68 ?_
        refine zg_puti zd_Node_takeRows_69 zf_124 rfl (by omega) (by first | assumption | rfl) rfl ?_
        refine zg_return zd_Node_takeRows_72 rfl ?_
        subst hQ; subst hW; exact ⟨rfl, rfl, rfl, rfl, rfl⟩
      · omega
    | succ j ih =>
      intro c o5 hij
      have ih := fun o => ih (c + 1) o (by omega)
      have hmb := zt_mj_b (cl := V 19) hw hn16 s c
      generalize hW : zg_u (zg_u V (40 + 5 * k) 0 (s : Int)) (40 + 5 * k) 1 ((zt_mj (V 19) (V 20) s n c).1 : Int) = U
      have hU : ∀ b, b < 21 → U b = V b := fun b hb => by rw [← hW, zg_u_out _ _ _ _ (by omega), zg_u_out _ _ _ _ (by omega)]
      have hTU := zt_T_fr hU hT
      have hU0 : U (40 + 5 * k) 0 = (s : Int) := by rw [← hW, zg_u_off _ _ _ _ (by decide), zg_u_in]
      have hw20 : U 20 = V 20 := hU 20 (by omega)
      have hw19 : U 19 = V 19 := hU 19 (by omega)
      have hmm := zt_w_b hw hn16 (zt_cls (V 19) s (c : Int) n)
      have hmm2 : zt_ms (V 19) (V 20) s n c = zt_w (V 20) (zt_cls (V 19) s (c : Int) n) n := rfl
      refine zg_il4 zd_Node_takeRows_15 ?_
      refine zg_iconst zd_Node_takeRows_17 ?_
      refine zg_icmp_ge (tgt := 58) zd_Node_takeRows_18 (by decide) (by omega) (by omega) (fun b18 => ?_) (fun b18 => ?_)
      · omega
      · refine zg_al1 zd_Node_takeRows_21 ?_
        refine zg_al1 zd_Node_takeRows_22 ?_
        refine zg_al0 zd_Node_takeRows_23 ?_
        refine zg_geti zd_Node_takeRows_24 zf_117 (by omega) (by first | assumption | rfl) rfl ?_
        rw [hU0]
        refine zg_il4 zd_Node_takeRows_27 ?_
        refine zg_cVp2 zd_Node_takeRows_29 zM_Table_rowsInClass zw_282 zi_Table_rowsInClass zs_Table_rowsInClass (ci_rowsInClass hN hs (by omega) hTU) (by decide) (by decide) (by omega) (by first | assumption | rfl) (by decide) rfl (Nat.le_of_ble_eq_true rfl) ?_
        rw [hw19]
        refine zg_cVp1 zd_Node_takeRows_32 zM_Table_weightOf zw_289 zi_Table_weightOf zs_Table_weightOf (ci_weightOf hN (hc16 _) hTU) (by decide) (by decide) (by omega) (by first | assumption | rfl) (by decide) rfl (Nat.le_of_ble_eq_true rfl) ?_
        rw [hw20]
        refine zg_is5 zd_Node_takeRows_35 (fun w h => by cases h <;> rfl) (by decide) ?_
        refine zg_il5 zd_Node_takeRows_37 ?_
        refine zg_il3 zd_Node_takeRows_39 ?_
        refine zg_icmp_le (tgt := 52) zd_Node_takeRows_40 (by decide) (by omega) (by omega) (fun b40 => ?_) (fun b40 => ?_)
        · refine zg_inc4 zd_Node_takeRows_52 (fun w h => by cases h <;> rfl) (by decide) ?_
          refine zg_goto (tgt := 15) zd_Node_takeRows_55 (by decide) ?_
          first
          | (have ih := ih (some (zg_i (zt_w (V 20) (zt_cls (V 19) s (c : Int) n) n)))
             rw [zt_mj_s, if_neg (by omega), hW] at ih
             exact ih)
          | (have ih := ih (some (zg_i (zt_w (V 20) (zt_cls (V 19) s (c : Int) n) n)))
             rw [zt_mj_s, if_pos (by omega)] at ih
             subst hW
             rw [zg_u_u]
             exact ih)
        · refine zg_il5 zd_Node_takeRows_43 ?_
          refine zg_is3 zd_Node_takeRows_45 (fun w h => by cases h <;> rfl) (by decide) ?_
          refine zg_al0 zd_Node_takeRows_46 ?_
          refine zg_il4 zd_Node_takeRows_47 ?_
          refine zg_puti zd_Node_takeRows_49 zf_121 rfl (by omega) (by first | assumption | rfl) rfl ?_
          refine zg_inc4 zd_Node_takeRows_52 (fun w h => by cases h <;> rfl) (by decide) ?_
          refine zg_goto (tgt := 15) zd_Node_takeRows_55 (by decide) ?_
          first
          | (have ih := ih (some (zg_i (zt_w (V 20) (zt_cls (V 19) s (c : Int) n) n)))
             rw [zt_mj_s, if_neg (by omega), hW] at ih
             exact ih)
          | (have ih := ih (some (zg_i (zt_w (V 20) (zt_cls (V 19) s (c : Int) n) n)))
             rw [zt_mj_s, if_pos (by omega)] at ih
             subst hW
             rw [zg_u_u]
             exact ih)
  exact key 4 0 none (by omega)
theorem ci_open {N : Nat} (hN : 223 ≤ N) (hk : k < 32) {s n : Nat} (hs : s < 65536) (hT : zt_T V n) : zg_S Γ zm_Tree_openNode 3 0 0 [zg_r Γ 0, zg_i k, zg_i s] zk_K N zi_Pn V (zq_p zk_K N zi_Pn (zg_u (zt_tk V (40 + 5 * k) s n) 201 k 0) none) := by
  have hkn := (zk_node k hk).1
  have hnode := zi_nodes hk
  refine zg_enter 0 (by decide) (Nat.le_of_ble_eq_true rfl) rfl ?_
  refine zg_al0 zd_Tree_openNode_0 ?_
  refine zg_getr zd_Tree_openNode_1 zf_295 (by omega) (by first | assumption | rfl) rfl (by first | assumption | rfl) ?_
  refine zg_il1 zd_Tree_openNode_4 ?_
  refine zg_aald zd_Tree_openNode_5 (by omega) (by first | assumption | rfl) rfl rfl rfl (by omega) (by decide) (by first | assumption | rfl) ?_
  refine zg_al0 zd_Tree_openNode_6 ?_
  refine zg_getr zd_Tree_openNode_7 zf_293 (by omega) (by first | assumption | rfl) rfl (by first | assumption | rfl) ?_
  refine zg_il2 zd_Tree_openNode_10 ?_
  refine zg_cVq2 zd_Tree_openNode_11 zM_Node_takeRows zw_278 zi_Node_takeRows zs_Node_takeRows (ci_take hN hk hs hT) (by decide) (by decide) (by omega) (by first | assumption | rfl) (by decide) rfl (Nat.le_of_ble_eq_true rfl) ?_
  refine zg_al0 zd_Tree_openNode_14 ?_
  refine zg_getr zd_Tree_openNode_15 zf_296 (by omega) (by first | assumption | rfl) rfl (by first | assumption | rfl) ?_
  refine zg_getr zd_Tree_openNode_18 zf_174 (by omega) (by first | assumption | rfl) rfl (by first | assumption | rfl) ?_
  refine zg_il1 zd_Tree_openNode_21 ?_
  refine zg_iconst zd_Tree_openNode_22 ?_
  refine zg_iast zd_Tree_openNode_23 (by omega) (by first | assumption | rfl) rfl (by omega) (by decide) ?_
  refine zg_return zd_Tree_openNode_24 rfl ?_
  exact ⟨rfl, rfl, rfl, rfl, rfl⟩
theorem ci_anew {N : Nat} (hN : 223 ≤ N) {n : Nat} (hT : zt_T V n) : zg_S Γ zm_Tree_startAnew 4 0 0 [zg_r Γ 0] zk_K N zi_Pn V (zq_p zk_K N (zg_up zi_Pn 0 9 (some 200)) (zt_an V n) none) := by
  have ho : ∀ b, b ≠ 201 → zv_fill V 201 32 (-1) b = V b := fun b hb => zv_fill_o V 201 32 (-1) hb
  have hT1 : zt_T (zv_fill V 201 32 (-1)) n := zt_T_fr (fun b hb => ho b (by omega)) hT
  have hp16 : zt_pos (V 20) n < 65536 := zt_mk16 hT.2.1
  have h20 := ho 20 (by decide)
  refine zg_enter 0 (by decide) (Nat.le_of_ble_eq_true rfl) rfl ?_
  refine zg_al0 zd_Tree_startAnew_0 ?_
  refine zg_getr zd_Tree_startAnew_1 zf_296 (by omega) (by first | assumption | rfl) rfl (by first | assumption | rfl) ?_
  refine zg_cVq0 zd_Tree_startAnew_4 zM_Shape_clear zw_269 zi_Shape_clear zs_Shape_clear (ci_clear (a := 200) (by omega) (Or.inl rfl) rfl) (by decide) (by decide) (by omega) (by first | assumption | rfl) (by decide) rfl (Nat.le_of_ble_eq_true rfl) ?_
  refine zg_al0 zd_Tree_startAnew_7 ?_
  refine zg_iconst zd_Tree_startAnew_8 ?_
  refine zg_al0 zd_Tree_startAnew_9 ?_
  refine zg_getr zd_Tree_startAnew_10 zf_293 (by omega) (by first | assumption | rfl) rfl (by first | assumption | rfl) ?_
  refine zg_cVp0 zd_Tree_startAnew_13 zM_Table_weightyRows zw_270 zi_Table_weightyRows zs_Table_weightyRows (ci_weightyRows hN hT1) (by decide) (by decide) (by omega) (by first | assumption | rfl) (by decide) rfl (Nat.le_of_ble_eq_true rfl) ?_
  rw [h20]
  refine zg_cVq2 zd_Tree_startAnew_16 zM_Tree_openNode zw_274 zi_Tree_openNode zs_Tree_openNode (ci_open hN (k := 1) (by decide) hp16 hT1) (by decide) (by decide) (by omega) (by first | assumption | rfl) (by decide) rfl (Nat.le_of_ble_eq_true rfl) ?_
  refine zg_al0 zd_Tree_startAnew_19 ?_
  refine zg_al0 zd_Tree_startAnew_20 ?_
  refine zg_getr zd_Tree_startAnew_21 zf_296 (by omega) (by first | assumption | rfl) rfl (by first | assumption | rfl) ?_
  refine zg_putr zd_Tree_startAnew_24 zf_302 rfl (by omega) (by first | assumption | rfl) rfl ?_
  refine zg_return zd_Tree_startAnew_27 rfl ?_
  exact ⟨rfl, rfl, rfl, rfl, rfl⟩
end ZT80

