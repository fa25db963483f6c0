/-! the tree: addRow, bag -/
theorem zp_sho (sh x : Nat) : zg_up (zk_P sh) 0 9 (some x) = zk_P x := by
  funext a j
  unfold zg_up
  by_cases h : a = 0
  · subst h
    simp only [if_true]
    by_cases e : j = 9
    · subst e
      rfl
    · have e2 : Nat.beq j 9 = false := by
        cases hq : Nat.beq j 9
        · rfl
        · exact absurd (Nat.eq_of_beq_eq_true hq) e
      simp only [e, if_false]
      unfold zk_P
      rw [e2]
      rfl
  · rw [if_neg h, zp_sh (by omega), zp_sh (sh := x) (by omega)]
section ZT45
variable {Γ : zg_C} {V : zg_V} {sh : Nat} {K : zg_K} {N : Nat} {P : zg_P}
theorem ct_addRow {n : Nat} {a b c d : Int} (hT : zt_T V n) (ha : -2147483648 ≤ a ∧ a < 2147483648) (hb : -2147483648 ≤ b ∧ b < 2147483648) (hc : -2147483648 ≤ c ∧ c < 2147483648) (hd : -2147483648 ≤ d ∧ d < 2147483648) (h0 : ∀ r, n ≤ r → V 20 r = 0) : zg_S Γ zm_Tree_addRow 5 0 0 [zg_r Γ 0, zg_i a, zg_i b, zg_i c, zg_i d] zk_K 242 (zk_P sh) V (zq_s zk_K 242 (fun rr P' V' => if (0 ≤ d ∧ d ≤ 3) ∧ n < 16 then rr = some (zg_i (n : Nat)) ∧ P' = zk_P 200 ∧ V' = zt_an (zt_ad V n a b c d) (n + 1) else rr = some (zg_i (-1)) ∧ P' = zk_P sh ∧ V' = V)) := by
  have hn16 := hT.2.1
  generalize hQ : zq_s zk_K 242 (fun rr P' V' => if (0 ≤ d ∧ d ≤ 3) ∧ n < 16 then rr = some (zg_i (n : Nat)) ∧ P' = zk_P 200 ∧ V' = zt_an (zt_ad V n a b c d) (n + 1) else rr = some (zg_i (-1)) ∧ P' = zk_P sh ∧ V' = V) = Q
  refine zg_enter 1 (by decide) (Nat.le_of_ble_eq_true rfl) rfl ?_
  have body : (0 ≤ d ∧ d ≤ 3) → n < 16 → zg_G Γ (fun _ => True) zm_Tree_addRow (zg_rm 5 0 0) (zg_Ω Γ (Q) 0 0) 0 0 22 [some (zg_r Γ (0)), some (zg_i (a)), some (zg_i (b)), some (zg_i (c)), some (zg_i (d)), none] [] zk_K 242 (zk_P sh) (V) := by
    intro hd3 hn
    have h1 : zt_add V n a b c d 1 3 = ((n + 1 : Nat) : Int) := by rw [(zt_add_at V n a b c d).1]; omega
    have hT' : zt_T (zt_nv (zv_fill (zt_add V n a b c d) 20 (n + 1) 1) 16 0) (n + 1) := zt_ad_T hT hn ha hb hc hd3 h0
    refine zg_al0 zd_Tree_addRow_22 ?_
    refine zg_getr zd_Tree_addRow_23 zf_293 (by omega) (by first | assumption | rfl) rfl (by first | assumption | rfl) ?_
    refine zg_il1 zd_Tree_addRow_26 ?_
    refine zg_il2 zd_Tree_addRow_27 ?_
    refine zg_il3 zd_Tree_addRow_28 ?_
    refine zg_il4 zd_Tree_addRow_29 ?_
    refine zg_cVp4 zd_Tree_addRow_31 zM_Table_append zw_340 zi_Table_append zs_Table_append (ct_append hT.1 hn) (by decide) (by decide) (by omega) (by first | assumption | rfl) (by decide) rfl (Nat.le_of_ble_eq_true rfl) ?_
    refine zg_is5 zd_Tree_addRow_34 (fun w h => by cases h <;> rfl) (by decide) ?_
    refine zg_al0 zd_Tree_addRow_36 ?_
    refine zg_getr zd_Tree_addRow_37 zf_293 (by omega) (by first | assumption | rfl) rfl (by first | assumption | rfl) ?_
    refine zg_iconst zd_Tree_addRow_40 ?_
    refine zg_cVq1 zd_Tree_addRow_41 zM_Table_setWeights zw_344 zi_Table_setWeights zs_Table_setWeights (ct_setWeights h1 (by omega)) (by decide) (by decide) (by omega) (by first | assumption | rfl) (by decide) rfl (Nat.le_of_ble_eq_true rfl) ?_
    refine zg_al0 zd_Tree_addRow_44 ?_
    refine zg_getr zd_Tree_addRow_45 zf_294 (by omega) (by first | assumption | rfl) rfl (by first | assumption | rfl) ?_
    refine zg_cVq0 zd_Tree_addRow_48 zM_Ballot_clear zw_348 zi_Ballot_clear zs_Ballot_clear (ct_vclear) (by decide) (by decide) (by omega) (by first | assumption | rfl) (by decide) rfl (Nat.le_of_ble_eq_true rfl) ?_
    refine zg_al0 zd_Tree_addRow_51 ?_
    refine zg_cVq0 zd_Tree_addRow_52 zM_Tree_startAnew zw_265 zi_Tree_startAnew zs_Tree_startAnew (ct_anew hT') (by decide) (by decide) (by omega) (by first | assumption | rfl) (by decide) rfl (Nat.le_of_ble_eq_true rfl) ?_
    refine zg_il5 zd_Tree_addRow_55 ?_
    refine zg_ireturn zd_Tree_addRow_57 rfl ?_
    subst hQ
    refine ⟨rfl, rfl, ?_⟩
    show if _ then _ else _
    rw [if_pos ⟨hd3, hn⟩]
    exact ⟨rfl, rfl, rfl⟩
  have no : ¬ ((0 ≤ d ∧ d ≤ 3) ∧ n < 16) → zg_G Γ (fun _ => True) zm_Tree_addRow (zg_rm 5 0 0) (zg_Ω Γ (Q) 0 0) 0 0 20 [some (zg_r Γ (0)), some (zg_i (a)), some (zg_i (b)), some (zg_i (c)), some (zg_i (d)), none] [] zk_K 242 (zk_P sh) (V) := by
    intro hno
    refine zg_iconst zd_Tree_addRow_20 ?_
    refine zg_ireturn zd_Tree_addRow_21 rfl ?_
    subst hQ
    refine ⟨rfl, rfl, ?_⟩
    show if _ then _ else _
    rw [if_neg hno]
    exact ⟨rfl, rfl, rfl⟩
  refine zg_il4 zd_Tree_addRow_0 ?_
  refine zg_cSp1 zd_Tree_addRow_2 zM_Tree_isClass zw_337 zi_Tree_isClass (ct_isClass hd) (by decide) (by decide) (Nat.le_of_ble_eq_true rfl) ?_
  refine zg_if_eqB (tgt := 20) zd_Tree_addRow_5 (by decide) (fun b5 => ?_) (fun b5 => ?_)
  · first
    | exact no (fun q => absurd q.1 (of_decide_eq_false b5))
    | exact no (fun q => by have := q.2; omega)
  · refine zg_al0 zd_Tree_addRow_8 ?_
    refine zg_getr zd_Tree_addRow_9 zf_293 (by omega) (by first | assumption | rfl) rfl (by first | assumption | rfl) ?_
    refine zg_geti zd_Tree_addRow_12 zf_41 (by omega) (by first | assumption | rfl) rfl ?_
    refine zg_bipush zd_Tree_addRow_15 (by decide) ?_
    rw [hT.1]
    refine zg_icmp_lt (tgt := 22) zd_Tree_addRow_17 (by decide) (by omega) (by omega) (fun b17 => ?_) (fun b17 => ?_)
    · exact body (of_decide_eq_true b5) (by omega)
    · first
      | exact no (fun q => absurd q.1 (of_decide_eq_false b5))
      | exact no (fun q => by have := q.2; omega)
theorem ct_bitCount {p : Nat → Bool} {n : Nat} (hn : n ≤ 16) : zg_S Γ zm_Integer_bitCount 0 0 0 [zg_i (zs_mk p n : Nat)] K N P V (zq_p K N P V (some (zg_i (zb_cn p n : Nat)))) := by
  obtain ⟨t1, t2⟩ := zb_pc p hn
  have hx : zs_mk p n < 65536 := zs_mk_lt16 p hn
  rw [← t2]
  generalize zs_mk p n = s at *
  have sub : (s : Int) - ((s >>> 1 &&& 1431655765 : Nat) : Int) = ((zb_p1 s : Nat) : Int) := by unfold zb_p1; omega
  have y1 : zb_p1 s < 65536 := by unfold zb_p1; omega
  have y2 : zb_p2 (zb_p1 s) < 131072 := by
    unfold zb_p2
    have h1 : zb_p1 s &&& 858993459 ≤ zb_p1 s := Nat.and_le_left
    have h2 : zb_p1 s >>> 2 &&& 858993459 ≤ zb_p1 s >>> 2 := Nat.and_le_left
    have h3 : zb_p1 s >>> 2 ≤ zb_p1 s := Nat.shiftRight_le _ _
    omega
  have y3 : zb_p3 (zb_p2 (zb_p1 s)) < 262144 := by
    unfold zb_p3
    have h1 : (zb_p2 (zb_p1 s) + zb_p2 (zb_p1 s) >>> 4) &&& 252645135 ≤ zb_p2 (zb_p1 s) + zb_p2 (zb_p1 s) >>> 4 := Nat.and_le_left
    have h3 : zb_p2 (zb_p1 s) >>> 4 ≤ zb_p2 (zb_p1 s) := Nat.shiftRight_le _ _
    omega
  have y4 : zb_p4 (zb_p3 (zb_p2 (zb_p1 s))) < 524288 := by
    unfold zb_p4
    have h3 : zb_p3 (zb_p2 (zb_p1 s)) >>> 8 ≤ zb_p3 (zb_p2 (zb_p1 s)) := Nat.shiftRight_le _ _
    omega
  have e2 : ((zb_p1 s &&& 858993459 : Nat) : Int) + ((zb_p1 s >>> 2 &&& 858993459 : Nat) : Int) = ((zb_p2 (zb_p1 s) : Nat) : Int) := by unfold zb_p2; omega
  have e3 : ((zb_p2 (zb_p1 s) : Nat) : Int) + ((zb_p2 (zb_p1 s) >>> 4 : Nat) : Int) = ((zb_p2 (zb_p1 s) + zb_p2 (zb_p1 s) >>> 4 : Nat) : Int) := by omega
  have e4 : ((zb_p3 (zb_p2 (zb_p1 s)) : Nat) : Int) + ((zb_p3 (zb_p2 (zb_p1 s)) >>> 8 : Nat) : Int) = ((zb_p4 (zb_p3 (zb_p2 (zb_p1 s))) : Nat) : Int) := by unfold zb_p4; omega
  have e5 : ((zb_p4 (zb_p3 (zb_p2 (zb_p1 s))) : Nat) : Int) + ((zb_p4 (zb_p3 (zb_p2 (zb_p1 s))) >>> 16 : Nat) : Int) = ((zb_p5 (zb_p4 (zb_p3 (zb_p2 (zb_p1 s)))) : Nat) : Int) := by unfold zb_p5; omega
  refine zg_enterF 0 (by decide +kernel) (Nat.le_of_ble_eq_true rfl) rfl ?_
  refine zg_il0 zd_Integer_bitCount_0 ?_
  refine zg_il0 zd_Integer_bitCount_1 ?_
  refine zg_iconst zd_Integer_bitCount_2 ?_
  refine zg_iushr ((s >>> 1 : Nat) : Int) zd_Integer_bitCount_3 (zb_ushr (r := 1) (by omega) (by decide)) ?_
  refine zg_ldc_w (1431655765) zd_Integer_bitCount_4 zw_374 (by decide) ?_
  refine zg_iand ((s >>> 1 &&& 1431655765 : Nat) : Int) zd_Integer_bitCount_7 (zb_and (s >>> 1) 1431655765) ?_
  refine zg_isub zd_Integer_bitCount_8 ?_
  rw [sub]
  refine zg_is0 zd_Integer_bitCount_9 (by decide) ?_
  refine zg_il0 zd_Integer_bitCount_10 ?_
  refine zg_ldc_w (858993459) zd_Integer_bitCount_11 zw_375 (by decide) ?_
  refine zg_iand ((zb_p1 s &&& 858993459 : Nat) : Int) zd_Integer_bitCount_14 (zb_and (zb_p1 s) 858993459) ?_
  refine zg_il0 zd_Integer_bitCount_15 ?_
  refine zg_iconst zd_Integer_bitCount_16 ?_
  refine zg_iushr ((zb_p1 s >>> 2 : Nat) : Int) zd_Integer_bitCount_17 (zb_ushr (r := 2) (by omega) (by decide)) ?_
  refine zg_ldc_w (858993459) zd_Integer_bitCount_18 zw_375 (by decide) ?_
  refine zg_iand ((zb_p1 s >>> 2 &&& 858993459 : Nat) : Int) zd_Integer_bitCount_21 (zb_and (zb_p1 s >>> 2) 858993459) ?_
  refine zg_iadd zd_Integer_bitCount_22 ?_
  rw [e2]
  refine zg_is0 zd_Integer_bitCount_23 (by decide) ?_
  refine zg_il0 zd_Integer_bitCount_24 ?_
  refine zg_il0 zd_Integer_bitCount_25 ?_
  refine zg_iconst zd_Integer_bitCount_26 ?_
  refine zg_iushr ((zb_p2 (zb_p1 s) >>> 4 : Nat) : Int) zd_Integer_bitCount_27 (zb_ushr (r := 4) (by omega) (by decide)) ?_
  refine zg_iadd zd_Integer_bitCount_28 ?_
  rw [e3]
  refine zg_ldc_w (252645135) zd_Integer_bitCount_29 zw_376 (by decide) ?_
  refine zg_iand ((zb_p3 (zb_p2 (zb_p1 s)) : Nat) : Int) zd_Integer_bitCount_32 (zb_and (zb_p2 (zb_p1 s) + zb_p2 (zb_p1 s) >>> 4) 252645135) ?_
  refine zg_is0 zd_Integer_bitCount_33 (by decide) ?_
  refine zg_il0 zd_Integer_bitCount_34 ?_
  refine zg_il0 zd_Integer_bitCount_35 ?_
  refine zg_bipush zd_Integer_bitCount_36 (by decide) ?_
  refine zg_iushr ((zb_p3 (zb_p2 (zb_p1 s)) >>> 8 : Nat) : Int) zd_Integer_bitCount_38 (zb_ushr (r := 8) (by omega) (by decide)) ?_
  refine zg_iadd zd_Integer_bitCount_39 ?_
  rw [e4]
  refine zg_is0 zd_Integer_bitCount_40 (by decide) ?_
  refine zg_il0 zd_Integer_bitCount_41 ?_
  refine zg_il0 zd_Integer_bitCount_42 ?_
  refine zg_bipush zd_Integer_bitCount_43 (by decide) ?_
  refine zg_iushr ((zb_p4 (zb_p3 (zb_p2 (zb_p1 s))) >>> 16 : Nat) : Int) zd_Integer_bitCount_45 (zb_ushr (r := 16) (by omega) (by decide)) ?_
  refine zg_iadd zd_Integer_bitCount_46 ?_
  rw [e5]
  refine zg_is0 zd_Integer_bitCount_47 (by decide) ?_
  refine zg_il0 zd_Integer_bitCount_48 ?_
  refine zg_bipush zd_Integer_bitCount_49 (by decide) ?_
  refine zg_iand ((zb_p5 (zb_p4 (zb_p3 (zb_p2 (zb_p1 s)))) &&& 63 : Nat) : Int) zd_Integer_bitCount_51 (zb_and (zb_p5 (zb_p4 (zb_p3 (zb_p2 (zb_p1 s))))) 63) ?_
  refine zg_ireturn zd_Integer_bitCount_52 rfl ?_
  exact ⟨rfl, rfl, rfl, rfl, rfl⟩
theorem ct_bag {n : Nat} {z : Int} (hT : zt_T V n) (h0 : ∀ r, n ≤ r → V 20 r = 0) : zg_S Γ zm_Tree_bag 5 0 0 [zg_r Γ 0, zg_l z] zk_K 242 (zk_P sh) V (zq_s zk_K 242 (fun rr P' V' => if n = 0 then rr = some (zg_i (-1)) ∧ P' = zk_P sh ∧ V' = V else rr = some (zg_i ((n : Int) - (zb_cn (fun r => decide (0 < zt_dr n n z (zt_w0 V n) r)) n : Int))) ∧ P' = zk_P 200 ∧ V' = zt_an (zv_row V 20 (zt_dr n n z (zt_w0 V n))) n)) := by
  have hn16 := hT.2.1
  have hV13 := hT.1
  generalize hQ : zq_s zk_K 242 (fun rr P' V' => if n = 0 then rr = some (zg_i (-1)) ∧ P' = zk_P sh ∧ V' = V else rr = some (zg_i ((n : Int) - (zb_cn (fun r => decide (0 < zt_dr n n z (zt_w0 V n) r)) n : Int))) ∧ P' = zk_P 200 ∧ V' = zt_an (zv_row V 20 (zt_dr n n z (zt_w0 V n))) n) = Q
  refine zg_enter 0 (by decide) (Nat.le_of_ble_eq_true rfl) rfl ?_
  have body : n ≠ 0 → zg_G Γ (fun _ => True) zm_Tree_bag (zg_rm 5 0 0) (zg_Ω Γ (Q) 0 0) 0 0 12 [some (zg_r Γ (0)), some (zg_l (z)), none] [] zk_K 242 (zk_P sh) (V) := by
    intro hn
    have e : zt_w0 V n = fun _ => 0 := by
      funext j
      unfold zt_w0
      by_cases q : j < n
      · simp [q]
      · simp only [q, if_false]; exact h0 j (by omega)
    obtain ⟨d1, d2, d3⟩ := zt_dr_0 (n := n) (by omega) hn16 z
    have hT1 : zt_T (zv_row V 20 (zt_dr n n z (zt_w0 V n))) n := by rw [e]; exact zt_T_row hT d1 d2
    have hT2 : zt_T (zt_an (zv_row V 20 (zt_dr n n z (zt_w0 V n))) n) n := zt_T_fr (fun b hb => zt_an_o _ n (by omega) (by omega)) hT1
    have h13 := hT2.1
    have h20 : zt_an (zv_row V 20 (zt_dr n n z (zt_w0 V n))) n 20 = zt_dr n n z (zt_w0 V n) := by rw [zt_an_o _ n (by decide) (by decide), zv_row_i]
    have hp : zt_pos (zt_an (zv_row V 20 (zt_dr n n z (zt_w0 V n))) n 20) n = zs_mk (fun r => decide (0 < zt_dr n n z (zt_w0 V n) r)) n := by rw [h20]; rfl
    refine zg_al0 zd_Tree_bag_12 ?_
    refine zg_getr zd_Tree_bag_13 zf_293 (by omega) (by first | assumption | rfl) rfl (by first | assumption | rfl) ?_
    refine zg_ll1 zd_Tree_bag_16 ?_
    refine zg_cVq1 zd_Tree_bag_17 zM_Table_draw zw_360 zi_Table_draw zs_Table_draw (ct_draw hT.1 (by omega) hn16) (by decide) (by decide) (by omega) (by first | assumption | rfl) (by decide) rfl (Nat.le_of_ble_eq_true rfl) ?_
    refine zg_al0 zd_Tree_bag_20 ?_
    refine zg_cVq0 zd_Tree_bag_21 zM_Tree_startAnew zw_265 zi_Tree_startAnew zs_Tree_startAnew (ct_anew hT1) (by decide) (by decide) (by omega) (by first | assumption | rfl) (by decide) rfl (Nat.le_of_ble_eq_true rfl) ?_
    refine zg_al0 zd_Tree_bag_24 ?_
    refine zg_getr zd_Tree_bag_25 zf_293 (by omega) (by first | assumption | rfl) rfl (by first | assumption | rfl) ?_
    refine zg_geti zd_Tree_bag_28 zf_41 (by omega) (by first | assumption | rfl) rfl ?_
    rw [h13]
    refine zg_al0 zd_Tree_bag_31 ?_
    refine zg_getr zd_Tree_bag_32 zf_293 (by omega) (by first | assumption | rfl) rfl (by first | assumption | rfl) ?_
    refine zg_cVp0 zd_Tree_bag_35 zM_Table_weightyRows zw_270 zi_Table_weightyRows zs_Table_weightyRows (ct_weightyRows hT2) (by decide) (by decide) (by omega) (by first | assumption | rfl) (by decide) rfl (Nat.le_of_ble_eq_true rfl) ?_
    rw [hp]
    refine zg_cSp1 zd_Tree_bag_38 zM_Integer_bitCount zw_371 zi_Integer_bitCount (ct_bitCount hn16) (by decide) (by decide) (Nat.le_of_ble_eq_true rfl) ?_
    refine zg_isub zd_Tree_bag_41 ?_
    refine zg_ireturn zd_Tree_bag_42 rfl ?_
    subst hQ
    refine ⟨rfl, rfl, ?_⟩
    show if _ then _ else _
    rw [if_neg hn]
    exact ⟨rfl, rfl, rfl⟩
  refine zg_al0 zd_Tree_bag_0 ?_
  refine zg_getr zd_Tree_bag_1 zf_293 (by omega) (by first | assumption | rfl) rfl (by first | assumption | rfl) ?_
  refine zg_geti zd_Tree_bag_4 zf_41 (by omega) (by first | assumption | rfl) rfl ?_
  rw [hV13]
  refine zg_if_ne (tgt := 12) zd_Tree_bag_7 (by decide) (by omega) (fun b7 => ?_) (fun b7 => ?_)
  · exact body (by omega)
  · refine zg_iconst zd_Tree_bag_10 ?_
    refine zg_ireturn zd_Tree_bag_11 rfl ?_
    subst hQ
    refine ⟨rfl, rfl, ?_⟩
    show if _ then _ else _
    rw [if_pos (by omega)]
    exact ⟨rfl, rfl, rfl⟩
end ZT45

