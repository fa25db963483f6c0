/-! the tree: cut, breakAt, tally, wrong -/
section ZT47
variable {Γ : zg_C} {V : zg_V} {sh : Nat}
theorem ct_cut {p q : Int} (hp : -2147483648 ≤ p ∧ p < 2147483648) (hq : -2147483648 ≤ q ∧ q < 2147483648) (hW : zc_W V) (hk0 : zt_kd (V 203)) : zg_S Γ zm_Tree_cut 2 0 0 [zg_r Γ 0, zg_i p, zg_i q] zk_K 242 (zk_P sh) V (zq_s zk_K 242 (fun rr P' V' => if zt_fw (V 201) 31 1 = 0 ∧ (0 ≤ p ∧ p ≤ 1000) ∧ (0 ≤ q ∧ q ≤ 1000) then (∃ sh1 : Nat, P' = zk_P sh1 ∧ rr = some (zg_i (zt_lv (V' (sh1 + 1)) 31 1)) ∧ ((q = 0 ∧ sh1 = 200 ∧ V' = V) ∨ (0 < q ∧ sh1 = 202 ∧ zv_on (fun a => a = 219 ∨ a = 203) V V' ∧ zt_kd (V' 203) ∧ ∀ k, 1 ≤ k → k < 32 → V' 203 k = zc_sh (zt_er V) (zt_sp V) (V 201) p q k))) else rr = some (zg_i (-1)) ∧ P' = zk_P sh ∧ V' = V)) := by
  have hkd : zt_kd (V (200 + 1)) := hW.2.1
  have hfb : zt_fw (V (200 + 1)) 31 1 < 32 := by
    rcases zt_fw_w (f := V (200 + 1)) 31 1 with z | z <;> omega
  generalize hQ : zq_s zk_K 242 (fun rr P' V' => if zt_fw (V 201) 31 1 = 0 ∧ (0 ≤ p ∧ p ≤ 1000) ∧ (0 ≤ q ∧ q ≤ 1000) then (∃ sh1 : Nat, P' = zk_P sh1 ∧ rr = some (zg_i (zt_lv (V' (sh1 + 1)) 31 1)) ∧ ((q = 0 ∧ sh1 = 200 ∧ V' = V) ∨ (0 < q ∧ sh1 = 202 ∧ zv_on (fun a => a = 219 ∨ a = 203) V V' ∧ zt_kd (V' 203) ∧ ∀ k, 1 ≤ k → k < 32 → V' 203 k = zc_sh (zt_er V) (zt_sp V) (V 201) p q k))) else rr = some (zg_i (-1)) ∧ P' = zk_P sh ∧ V' = V) = Q
  refine zg_enter 0 (by decide) (Nat.le_of_ble_eq_true rfl) rfl ?_
  have no : ¬ (zt_fw (V 201) 31 1 = 0 ∧ (0 ≤ p ∧ p ≤ 1000) ∧ (0 ≤ q ∧ q ≤ 1000)) → zg_G Γ (fun _ => True) zm_Tree_cut (zg_rm 2 0 0) (zg_Ω Γ (Q) 0 0) 0 0 24 [some (zg_r Γ (0)), some (zg_i (p)), some (zg_i (q))] [] zk_K 242 (zk_P sh) (V) := by
    intro hno
    refine zg_iconst zd_Tree_cut_24 ?_
    refine zg_ireturn zd_Tree_cut_25 rfl ?_
    subst hQ
    refine ⟨rfl, rfl, ?_⟩
    show if _ then _ else _
    rw [if_neg hno]
    exact ⟨rfl, rfl, rfl⟩
  have yes : zt_fw (V 201) 31 1 = 0 → (0 ≤ p ∧ p ≤ 1000) → (0 ≤ q ∧ q ≤ 1000) → zg_G Γ (fun _ => True) zm_Tree_cut (zg_rm 2 0 0) (zg_Ω Γ (Q) 0 0) 0 0 26 [some (zg_r Γ (0)), some (zg_i (p)), some (zg_i (q))] [] zk_K 242 (zk_P sh) (V) := by
    intro h1 h2 h3
    have fin : ∀ (sh1 : Nat) (U : zg_V) (y : Int), y = zt_lv (U (sh1 + 1)) 31 1 → ((q = 0 ∧ sh1 = 200 ∧ U = V) ∨ (0 < q ∧ sh1 = 202 ∧ zv_on (fun a => a = 219 ∨ a = 203) V U ∧ zt_kd (U 203) ∧ ∀ k, 1 ≤ k → k < 32 → U 203 k = zc_sh (zt_er V) (zt_sp V) (V 201) p q k)) → Q (some (zg_i y)) zk_K 242 (zk_P sh1) U := fun sh1 U y hy hU => by
      subst hQ
      refine ⟨rfl, rfl, ?_⟩
      show if _ then _ else _
      rw [if_pos ⟨h1, h2, h3⟩]
      exact ⟨sh1, rfl, by rw [hy], hU⟩
    have a70 : q = 0 → zg_G Γ (fun _ => True) zm_Tree_cut (zg_rm 2 0 0) (zg_Ω Γ (Q) 0 0) 0 0 70 [some (zg_r Γ (0)), some (zg_i (p)), some (zg_i (q))] [] zk_K 242 (zk_P 200) (V) := by
      intro hq0
      refine zg_al0 zd_Tree_cut_70 ?_
      refine zg_getr zd_Tree_cut_71 zf_302 (by omega) (by first | assumption | rfl) rfl (by first | assumption | rfl) ?_
      refine zg_cVp0 zd_Tree_cut_74 zM_Shape_leaves zw_590 zi_Shape_leaves zs_Shape_leaves (ct_hlv (Or.inl rfl) hkd) (by decide) (by decide) (by omega) (by first | assumption | rfl) (by decide) rfl (Nat.le_of_ble_eq_true rfl) ?_
      refine zg_ireturn zd_Tree_cut_77 rfl ?_
      exact fin 200 V _ rfl (Or.inl ⟨hq0, rfl, rfl⟩)
    have b70 : ∀ U : zg_V, 0 < q → zv_on (fun a => a = 219 ∨ a = 203) V U → zt_kd (U (202 + 1)) → (∀ k, 1 ≤ k → k < 32 → U 203 k = zc_sh (zt_er V) (zt_sp V) (V 201) p q k) → zg_G Γ (fun _ => True) zm_Tree_cut (zg_rm 2 0 0) (zg_Ω Γ (Q) 0 0) 0 0 70 [some (zg_r Γ (0)), some (zg_i (p)), some (zg_i (q))] [] zk_K 242 (zk_P 202) (U) := by
      intro U hq0 u1 u2 u3
      refine zg_al0 zd_Tree_cut_70 ?_
      refine zg_getr zd_Tree_cut_71 zf_302 (by omega) (by first | assumption | rfl) rfl (by first | assumption | rfl) ?_
      refine zg_cVp0 zd_Tree_cut_74 zM_Shape_leaves zw_590 zi_Shape_leaves zs_Shape_leaves (ct_hlv (Or.inr (Or.inl rfl)) u2) (by decide) (by decide) (by omega) (by first | assumption | rfl) (by decide) rfl (Nat.le_of_ble_eq_true rfl) ?_
      refine zg_ireturn zd_Tree_cut_77 rfl ?_
      exact fin 202 U _ rfl (Or.inr ⟨hq0, rfl, u1, u2, u3⟩)
    refine zg_il2 zd_Tree_cut_26 ?_
    refine zg_if_ne (tgt := 41) zd_Tree_cut_27 (by decide) (by omega) (fun b27 => ?_) (fun b27 => ?_)
    · refine zg_al0 zd_Tree_cut_41 ?_
      refine zg_getr zd_Tree_cut_42 zf_300 (by omega) (by first | assumption | rfl) rfl (by first | assumption | rfl) ?_
      refine zg_al0 zd_Tree_cut_45 ?_
      refine zg_getr zd_Tree_cut_46 zf_296 (by omega) (by first | assumption | rfl) rfl (by first | assumption | rfl) ?_
      refine zg_al0 zd_Tree_cut_49 ?_
      refine zg_getr zd_Tree_cut_50 zf_295 (by omega) (by first | assumption | rfl) rfl (by first | assumption | rfl) ?_
      refine zg_il1 zd_Tree_cut_53 ?_
      refine zg_il2 zd_Tree_cut_54 ?_
      refine zg_al0 zd_Tree_cut_55 ?_
      refine zg_getr zd_Tree_cut_56 zf_297 (by omega) (by first | assumption | rfl) rfl (by first | assumption | rfl) ?_
      refine zg_cVr5 zd_Tree_cut_59 zM_Cutter_trim zw_581 zi_Cutter_trim zs_Cutter_trim (ct_trim (R := 202) (Or.inl rfl) (by omega) (by omega) hW hk0) (by decide) (by decide) (by omega) (by first | assumption | rfl) (by decide) rfl (Nat.le_of_ble_eq_true rfl) ?_
      intro r U hq
      obtain ⟨rfl, u1, u2, u3, u4⟩ := hq
      refine zg_al0 zd_Tree_cut_62 ?_
      refine zg_al0 zd_Tree_cut_63 ?_
      refine zg_getr zd_Tree_cut_64 zf_297 (by omega) (by first | assumption | rfl) rfl (by first | assumption | rfl) ?_
      refine zg_putr zd_Tree_cut_67 zf_302 rfl (by omega) (by first | assumption | rfl) rfl ?_
      first
      | exact a70 (by omega)
      | (rw [zp_sho]
         exact b70 U (by omega) u1 u2 u4)
    · refine zg_al0 zd_Tree_cut_30 ?_
      refine zg_al0 zd_Tree_cut_31 ?_
      refine zg_getr zd_Tree_cut_32 zf_296 (by omega) (by first | assumption | rfl) rfl (by first | assumption | rfl) ?_
      refine zg_putr zd_Tree_cut_35 zf_302 rfl (by omega) (by first | assumption | rfl) rfl ?_
      rw [zp_sho]
      refine zg_goto (tgt := 70) zd_Tree_cut_38 (by decide) ?_
      first
      | exact a70 (by omega)
      | (rw [zp_sho]
         exact b70 U (by omega) u1 u2 u4)
  refine zg_al0 zd_Tree_cut_0 ?_
  refine zg_getr zd_Tree_cut_1 zf_296 (by omega) (by first | assumption | rfl) rfl (by first | assumption | rfl) ?_
  refine zg_cVp0 zd_Tree_cut_4 zM_Shape_firstWaiting zw_393 zi_Shape_firstWaiting zs_Shape_firstWaiting (ct_hfw (Or.inl rfl) hkd) (by decide) (by decide) (by omega) (by first | assumption | rfl) (by decide) rfl (Nat.le_of_ble_eq_true rfl) ?_
  refine zg_if_ne (tgt := 24) zd_Tree_cut_7 (by decide) (by omega) (fun b7 => ?_) (fun b7 => ?_)
  · first
    | exact no (fun z => by have h : zt_fw (V (200 + 1)) 31 1 = 0 := z.1; omega)
    | exact no (fun z => absurd z.2.1 (of_decide_eq_false b14))
    | exact no (fun z => absurd z.2.2 (of_decide_eq_false b21))
  · refine zg_il1 zd_Tree_cut_10 ?_
    refine zg_cSp1 zd_Tree_cut_11 zM_Tree_isCutTerm zw_578 zi_Tree_isCutTerm (ct_isCutTerm hp) (by decide) (by decide) (Nat.le_of_ble_eq_true rfl) ?_
    refine zg_if_eqB (tgt := 24) zd_Tree_cut_14 (by decide) (fun b14 => ?_) (fun b14 => ?_)
    · first
      | exact no (fun z => by have h : zt_fw (V (200 + 1)) 31 1 = 0 := z.1; omega)
      | exact no (fun z => absurd z.2.1 (of_decide_eq_false b14))
      | exact no (fun z => absurd z.2.2 (of_decide_eq_false b21))
    · refine zg_il2 zd_Tree_cut_17 ?_
      refine zg_cSp1 zd_Tree_cut_18 zM_Tree_isCutTerm zw_578 zi_Tree_isCutTerm (ct_isCutTerm hq) (by decide) (by decide) (Nat.le_of_ble_eq_true rfl) ?_
      refine zg_if_neB (tgt := 26) zd_Tree_cut_21 (by decide) (fun b21 => ?_) (fun b21 => ?_)
      · exact yes (by show zt_fw (V (200 + 1)) 31 1 = 0; omega) (of_decide_eq_true b14) (of_decide_eq_true b21)
      · first
        | exact no (fun z => by have h : zt_fw (V (200 + 1)) 31 1 = 0 := z.1; omega)
        | exact no (fun z => absurd z.2.1 (of_decide_eq_false b14))
        | exact no (fun z => absurd z.2.2 (of_decide_eq_false b21))
theorem ct_breakAt {k : Int} (hk : -2147483648 ≤ k ∧ k < 2147483648) (hW : zc_W V) (hk0 : zt_kd (V 217)) (h0 : V 217 0 ≠ 2) : zg_S Γ zm_Tree_breakAt 4 0 0 [zg_r Γ 0, zg_i k] zk_K 242 (zk_P sh) V (zq_r zk_K 242 (zk_P sh) (fun rr V' => if zt_fw (V 201) 31 1 = 0 ∧ 0 ≤ k ∧ k < 15 then zv_on zc_Sc V V' ∧ zt_kd (V' 217) ∧ V' 217 0 ≠ 2 ∧ ((rr = some (zg_i (-1)) ∧ ∀ x y, ¬ zc_kt (zt_er V) (zt_sp V) k.toNat x y) ∨ ∃ x y, rr = some (zg_i (x * 32 + y)) ∧ zc_kt (zt_er V) (zt_sp V) k.toNat x y) else rr = some (zg_i (-1)) ∧ V' = V)) := by
  have hkd : zt_kd (V (200 + 1)) := hW.2.1
  have hfb : zt_fw (V (200 + 1)) 31 1 < 32 := by
    rcases zt_fw_w (f := V (200 + 1)) 31 1 with z | z <;> omega
  generalize hQ : zq_r zk_K 242 (zk_P sh) (fun rr V' => if zt_fw (V 201) 31 1 = 0 ∧ 0 ≤ k ∧ k < 15 then zv_on zc_Sc V V' ∧ zt_kd (V' 217) ∧ V' 217 0 ≠ 2 ∧ ((rr = some (zg_i (-1)) ∧ ∀ x y, ¬ zc_kt (zt_er V) (zt_sp V) k.toNat x y) ∨ ∃ x y, rr = some (zg_i (x * 32 + y)) ∧ zc_kt (zt_er V) (zt_sp V) k.toNat x y) else rr = some (zg_i (-1)) ∧ V' = V) = Q
  refine zg_enter 0 (by decide) (Nat.le_of_ble_eq_true rfl) rfl ?_
  have no : ¬ (zt_fw (V 201) 31 1 = 0 ∧ 0 ≤ k ∧ k < 15) → zg_G Γ (fun _ => True) zm_Tree_breakAt (zg_rm 4 0 0) (zg_Ω Γ (Q) 0 0) 0 0 20 [some (zg_r Γ (0)), some (zg_i (k))] [] zk_K 242 (zk_P sh) (V) := by
    intro hno
    refine zg_iconst zd_Tree_breakAt_20 ?_
    refine zg_ireturn zd_Tree_breakAt_21 rfl ?_
    subst hQ
    refine ⟨rfl, rfl, rfl, ?_⟩
    show if _ then _ else _
    rw [if_neg hno]
    exact ⟨rfl, rfl⟩
  have yes : zt_fw (V 201) 31 1 = 0 → 0 ≤ k → k < 15 → zg_G Γ (fun _ => True) zm_Tree_breakAt (zg_rm 4 0 0) (zg_Ω Γ (Q) 0 0) 0 0 22 [some (zg_r Γ (0)), some (zg_i (k))] [] zk_K 242 (zk_P sh) (V) := by
    intro h1 h2 h3
    obtain ⟨κ, hκ⟩ : ∃ κ : Nat, k = (κ : Int) := ⟨k.toNat, by omega⟩
    subst hκ
    have a41 : ∀ U : zg_V, zv_on zc_Sc V U → zt_kd (U 217) → U 217 0 ≠ 2 → (∀ x y, ¬ zc_kt (zt_er V) (zt_sp V) κ x y) → zg_G Γ (fun _ => True) zm_Tree_breakAt (zg_rm 4 0 0) (zg_Ω Γ (Q) 0 0) 0 0 41 [some (zg_r Γ (0)), some (zg_i (κ))] [] zk_K 242 (zk_P sh) (U) := by
      intro U u1 u2 u3 u4
      refine zg_iconst zd_Tree_breakAt_41 ?_
      refine zg_ireturn zd_Tree_breakAt_42 rfl ?_
      subst hQ
      refine ⟨rfl, rfl, rfl, ?_⟩
      show if _ then _ else _
      rw [if_pos ⟨h1, h2, h3⟩, show ((κ : Int)).toNat = κ by omega]
      exact ⟨u1, u2, u3, Or.inl ⟨rfl, u4⟩⟩
    have a43 : ∀ U : zg_V, zv_on zc_Sc V U → zt_kd (U 217) → U 217 0 ≠ 2 → zc_kt (zt_er V) (zt_sp V) κ (U 215 0) (U 215 1) → zg_G Γ (fun _ => True) zm_Tree_breakAt (zg_rm 4 0 0) (zg_Ω Γ (Q) 0 0) 0 0 43 [some (zg_r Γ (0)), some (zg_i (κ))] [] zk_K 242 (zk_P sh) (U) := by
      intro U u1 u2 u3 u4
      refine zg_al0 zd_Tree_breakAt_43 ?_
      refine zg_getr zd_Tree_breakAt_44 zf_300 (by omega) (by first | assumption | rfl) rfl (by first | assumption | rfl) ?_
      refine zg_getr zd_Tree_breakAt_47 zf_246 (by omega) (by first | assumption | rfl) rfl (by first | assumption | rfl) ?_
      refine zg_getl zd_Tree_breakAt_50 zf_81 (by omega) (by first | assumption | rfl) rfl ?_
      refine zg_ldc2 (32) zd_Tree_breakAt_53 zw_610 (by decide) ?_
      refine zg_lmul zd_Tree_breakAt_56 ?_
      refine zg_al0 zd_Tree_breakAt_57 ?_
      refine zg_getr zd_Tree_breakAt_58 zf_300 (by omega) (by first | assumption | rfl) rfl (by first | assumption | rfl) ?_
      refine zg_getr zd_Tree_breakAt_61 zf_246 (by omega) (by first | assumption | rfl) rfl (by first | assumption | rfl) ?_
      refine zg_getl zd_Tree_breakAt_64 zf_84 (by omega) (by first | assumption | rfl) rfl ?_
      refine zg_ladd zd_Tree_breakAt_67 ?_
      refine zg_l2i zd_Tree_breakAt_68 ?_
      refine zg_ireturn zd_Tree_breakAt_69 rfl ?_
      subst hQ
      refine ⟨rfl, rfl, rfl, ?_⟩
      show if _ then _ else _
      rw [if_pos ⟨h1, h2, h3⟩, show ((κ : Int)).toNat = κ by omega]
      exact ⟨u1, u2, u3, Or.inr ⟨_, _, rfl, u4⟩⟩
    have a38 : ∀ (r : Option Value) (U : zg_V), (zv_on zc_Sc V U ∧ zt_kd (U 217) ∧ U 217 0 ≠ 2 ∧ ((r = some (zg_i 0) ∧ ∀ x y, ¬ zc_kt (zt_er V) (zt_sp V) κ x y) ∨ (r = some (zg_i 1) ∧ zc_kt (zt_er V) (zt_sp V) κ (U 215 0) (U 215 1)))) → zg_G Γ (fun _ => True) zm_Tree_breakAt (zg_rm 4 0 0) (zg_Ω Γ Q 0 0) 0 0 38 [some (zg_r Γ 0), some (zg_i κ)] (r.toList ++ []) zk_K 242 (zk_P sh) U := by
      rintro r U ⟨u1, u2, u3, ⟨rfl, u4⟩ | ⟨rfl, u4⟩⟩
      · have g := a41 U u1 u2 u3 u4
        refine zg_if_ne (tgt := 43) zd_Tree_breakAt_38 (by decide) (by omega) (fun b => ?_) (fun b => g)
        exact absurd rfl b
      · have g := a43 U u1 u2 u3 u4
        refine zg_if_ne (tgt := 43) zd_Tree_breakAt_38 (by decide) (by omega) (fun b => g) (fun b => ?_)
        exact absurd b (by decide)
    refine zg_al0 zd_Tree_breakAt_22 ?_
    refine zg_getr zd_Tree_breakAt_23 zf_300 (by omega) (by first | assumption | rfl) rfl (by first | assumption | rfl) ?_
    refine zg_al0 zd_Tree_breakAt_26 ?_
    refine zg_getr zd_Tree_breakAt_27 zf_296 (by omega) (by first | assumption | rfl) rfl (by first | assumption | rfl) ?_
    refine zg_al0 zd_Tree_breakAt_30 ?_
    refine zg_getr zd_Tree_breakAt_31 zf_295 (by omega) (by first | assumption | rfl) rfl (by first | assumption | rfl) ?_
    refine zg_il1 zd_Tree_breakAt_34 ?_
    refine zg_cVr3 zd_Tree_breakAt_35 zM_Cutter_findBreak zw_598 zi_Cutter_findBreak zs_Cutter_findBreak (ct_fbreak hW hk0 h0 (m := κ) (by omega)) (by decide) (by decide) (by omega) (by first | assumption | rfl) (by decide) rfl (Nat.le_of_ble_eq_true rfl) ?_
    intro r U hq
    exact a38 r U hq
  refine zg_al0 zd_Tree_breakAt_0 ?_
  refine zg_getr zd_Tree_breakAt_1 zf_296 (by omega) (by first | assumption | rfl) rfl (by first | assumption | rfl) ?_
  refine zg_cVp0 zd_Tree_breakAt_4 zM_Shape_firstWaiting zw_393 zi_Shape_firstWaiting zs_Shape_firstWaiting (ct_hfw (Or.inl rfl) hkd) (by decide) (by decide) (by omega) (by first | assumption | rfl) (by decide) rfl (Nat.le_of_ble_eq_true rfl) ?_
  refine zg_if_ne (tgt := 20) zd_Tree_breakAt_7 (by decide) (by omega) (fun b7 => ?_) (fun b7 => ?_)
  · first
    | exact no (fun z => by have h : zt_fw (V (200 + 1)) 31 1 = 0 := z.1; omega)
  · refine zg_il1 zd_Tree_breakAt_10 ?_
    refine zg_if_lt (tgt := 20) zd_Tree_breakAt_11 (by decide) (by omega) (fun b11 => ?_) (fun b11 => ?_)
    · first
      | exact no (fun z => by have h : zt_fw (V (200 + 1)) 31 1 = 0 := z.1; omega)
    · refine zg_il1 zd_Tree_breakAt_14 ?_
      refine zg_bipush zd_Tree_breakAt_15 (by decide) ?_
      refine zg_icmp_lt (tgt := 22) zd_Tree_breakAt_17 (by decide) (by omega) (by omega) (fun b17 => ?_) (fun b17 => ?_)
      · exact yes (by show zt_fw (V (200 + 1)) 31 1 = 0; omega) (by omega) (by omega)
      · first
        | exact no (fun z => by have h : zt_fw (V (200 + 1)) 31 1 = 0 := z.1; omega)
theorem ct_wrong {n : Nat} (hT : zt_T V n) (hv : ∀ r c, r < 16 → c < 4 → -2147483648 ≤ V (23 + r) c ∧ V (23 + r) c < 2147483648) : zg_S Γ zm_Tree_wrong 1 0 0 [zg_r Γ 0] zk_K 242 (zk_P sh) V (zq_p zk_K 242 (zk_P sh) V (some (zg_i (zs_sum (zt_wc V) n)))) := by
  have hn16 := hT.2.1
  have h13 := hT.1
  refine zg_enter 3 (by decide) (Nat.le_of_ble_eq_true rfl) rfl ?_
  have loop : ∀ (j i : Nat) (o3 : Option Value), i + j = n → zg_G Γ (fun _ => True) zm_Tree_wrong (zg_rm 1 0 0) (zg_Ω Γ (zq_p zk_K 242 (zk_P sh) V (some (zg_i (zs_sum (zt_wc V) n)))) 0 0) 0 0 4 [some (zg_r Γ (0)), some (zg_i (zs_sum (zt_wc V) i)), some (zg_i ((i : Nat))), o3] [] zk_K 242 (zk_P sh) (V) := by
    intro j
    induction j with
    | zero =>
      intro i o3 hij
      have e : i = n := by omega
      subst e
      refine zg_il2 zd_Tree_wrong_4 ?_
      refine zg_al0 zd_Tree_wrong_5 ?_
      refine zg_getr zd_Tree_wrong_6 zf_293 (by omega) (by first | assumption | rfl) rfl (by first | assumption | rfl) ?_
      refine zg_geti zd_Tree_wrong_9 zf_41 (by omega) (by first | assumption | rfl) rfl ?_
      rw [h13]
      refine zg_icmp_ge (tgt := 50) zd_Tree_wrong_12 (by decide) (by omega) (by omega) (fun b12 => ?_) (fun b12 => ?_)
      · refine zg_il1 zd_Tree_wrong_50 ?_
        refine zg_ireturn zd_Tree_wrong_51 rfl ?_
        exact ⟨rfl, rfl, rfl, rfl, rfl⟩
      · omega
    | succ j ih =>
      intro i o3 hij
      have hi : i < 16 := by omega
      have hch : -1 ≤ (zt_ch (V (23 + i)) 4).1 ∧ (zt_ch (V (23 + i)) 4).1 ≤ 4 := by
        have key : ∀ c, -1 ≤ (zt_ch (V (23 + i)) c).1 ∧ (zt_ch (V (23 + i)) c).1 ≤ (c : Int) := by
          intro c
          induction c with
          | zero => exact ⟨by show (-1 : Int) ≤ -1; omega, by show (-1 : Int) ≤ 0; omega⟩
          | succ c ih =>
            rw [zt_ch_s]
            split
            · exact ⟨by show (-1 : Int) ≤ (c : Int); omega, by show (c : Int) ≤ ((c + 1 : Nat) : Int); omega⟩
            · omega
        exact key 4
      have hcl := hT.2.2.2.1 i hi
      have hs : 0 ≤ zs_sum (zt_wc V) i ∧ zs_sum (zt_wc V) i ≤ i := by
        have key : ∀ m : Nat, 0 ≤ zs_sum (zt_wc V) m ∧ zs_sum (zt_wc V) m ≤ m := by
          intro m
          induction m with
          | zero => exact ⟨Int.le_refl 0, Int.le_refl 0⟩
          | succ m ih =>
            rw [zs_sum_s]
            have : 0 ≤ zt_wc V m ∧ zt_wc V m ≤ 1 := by unfold zt_wc; split <;> omega
            omega
        exact key i
      have step := zs_sum_s (zt_wc V) i
      have w0 : ¬ (0 ≤ (zt_ch (V (23 + i)) 4).1 ∧ (zt_ch (V (23 + i)) 4).1 ≠ V 19 i) → zs_sum (zt_wc V) (i + 1) = zs_sum (zt_wc V) i := fun q => by
        rw [step]; unfold zt_wc; rw [if_neg q]; omega
      have w1 : (0 ≤ (zt_ch (V (23 + i)) 4).1 ∧ (zt_ch (V (23 + i)) 4).1 ≠ V 19 i) → zs_sum (zt_wc V) (i + 1) = zs_sum (zt_wc V) i + 1 := fun q => by
        rw [step]; unfold zt_wc; rw [if_pos q]
      have go := ih (i + 1)
      refine zg_il2 zd_Tree_wrong_4 ?_
      refine zg_al0 zd_Tree_wrong_5 ?_
      refine zg_getr zd_Tree_wrong_6 zf_293 (by omega) (by first | assumption | rfl) rfl (by first | assumption | rfl) ?_
      refine zg_geti zd_Tree_wrong_9 zf_41 (by omega) (by first | assumption | rfl) rfl ?_
      rw [h13]
      refine zg_icmp_ge (tgt := 50) zd_Tree_wrong_12 (by decide) (by omega) (by omega) (fun b12 => ?_) (fun b12 => ?_)
      · omega
      · refine zg_al0 zd_Tree_wrong_15 ?_
        refine zg_getr zd_Tree_wrong_16 zf_294 (by omega) (by first | assumption | rfl) rfl (by first | assumption | rfl) ?_
        refine zg_il2 zd_Tree_wrong_19 ?_
        refine zg_cVp1 zd_Tree_wrong_20 zM_Ballot_choice zw_627 zi_Ballot_choice zs_Ballot_choice (ct_choice hi (fun c hc => hv i c hi hc)) (by decide) (by decide) (by omega) (by first | assumption | rfl) (by decide) rfl (Nat.le_of_ble_eq_true rfl) ?_
        refine zg_is3 zd_Tree_wrong_23 (fun w h => by cases h <;> rfl) (by decide) ?_
        refine zg_il3 zd_Tree_wrong_24 ?_
        refine zg_if_lt (tgt := 44) zd_Tree_wrong_25 (by decide) (by omega) (fun b25 => ?_) (fun b25 => ?_)
        · refine zg_inc2 zd_Tree_wrong_44 (fun w h => by cases h <;> rfl) (by decide) ?_
          refine zg_goto (tgt := 4) zd_Tree_wrong_47 (by decide) ?_
          first
          | (rw [← w0 (fun q => by have := q.1; omega)]
             exact go _ (by omega))
          | (rw [← w0 (fun q => q.2 (by omega))]
             exact go _ (by omega))
          | (rw [← w1 ⟨by omega, fun q => by omega⟩]
             exact go _ (by omega))
        · refine zg_il3 zd_Tree_wrong_28 ?_
          refine zg_al0 zd_Tree_wrong_29 ?_
          refine zg_getr zd_Tree_wrong_30 zf_293 (by omega) (by first | assumption | rfl) rfl (by first | assumption | rfl) ?_
          refine zg_getr zd_Tree_wrong_33 zf_36 (by omega) (by first | assumption | rfl) rfl (by first | assumption | rfl) ?_
          refine zg_il2 zd_Tree_wrong_36 ?_
          refine zg_iald (j := i) zd_Tree_wrong_37 (by omega) rfl rfl (by omega) (by decide) ?_
          refine zg_icmp_eq (tgt := 44) zd_Tree_wrong_38 (by decide) (by omega) (by omega) (fun b38 => ?_) (fun b38 => ?_)
          · refine zg_inc2 zd_Tree_wrong_44 (fun w h => by cases h <;> rfl) (by decide) ?_
            refine zg_goto (tgt := 4) zd_Tree_wrong_47 (by decide) ?_
            first
            | (rw [← w0 (fun q => by have := q.1; omega)]
               exact go _ (by omega))
            | (rw [← w0 (fun q => q.2 (by omega))]
               exact go _ (by omega))
            | (rw [← w1 ⟨by omega, fun q => by omega⟩]
               exact go _ (by omega))
          · refine zg_inc1 zd_Tree_wrong_41 (fun w h => by cases h <;> rfl) (by decide) ?_
            refine zg_inc2 zd_Tree_wrong_44 (fun w h => by cases h <;> rfl) (by decide) ?_
            refine zg_goto (tgt := 4) zd_Tree_wrong_47 (by decide) ?_
            first
            | (rw [← w0 (fun q => by have := q.1; omega)]
               exact go _ (by omega))
            | (rw [← w0 (fun q => q.2 (by omega))]
               exact go _ (by omega))
            | (rw [← w1 ⟨by omega, fun q => by omega⟩]
               exact go _ (by omega))
  refine zg_iconst zd_Tree_wrong_0 ?_
  refine zg_is1 zd_Tree_wrong_1 (fun w h => by cases h <;> rfl) (by decide) ?_
  refine zg_iconst zd_Tree_wrong_2 ?_
  refine zg_is2 zd_Tree_wrong_3 (fun w h => by cases h <;> rfl) (by decide) ?_
  exact loop n 0 none (by omega)
theorem ct_tally (hsh : zk_sh sh) (hkd : zt_kd (V (sh + 1))) (hkd1 : zt_kd (V 201)) {n : Nat} {g : Nat → Nat} {ft : Nat → Nat} {bo : Nat → Int} {Lf : Nat → List zw_E} {ln : Nat → Bool} (hT : zt_T V n) (hN : ∀ k : Nat, k < 32 → zt_at (V (sh + 1)) (k : Int) = 2 → zt_nd V (40 + 5 * k) (ft k) (bo k) (Lf k) (ln k))
    (hg : ∀ r, r < n → g r < 4 ∧ zr_rc (fun m => zt_at (V (sh + 1)) (m : Int)) (fun m => zw_go ((ft m, bo m, false, 0) :: Lf m) (V (3 + r)) (ln m)) 4 1 < 32 ∧ V (40 + 5 * zr_rc (fun m => zt_at (V (sh + 1)) (m : Int)) (fun m => zw_go ((ft m, bo m, false, 0) :: Lf m) (V (3 + r)) (ln m)) 4 1) 1 = (g r : Int)) : zg_S Γ zm_Tree_tally 3 0 0 [zg_r Γ 0] zk_K 242 (zk_P sh) V (zq_r zk_K 242 (zk_P sh) (fun rr V' => if zt_fw (V 201) 31 1 = 0 then rr = some (zg_i (zs_sum (fun r => if V 20 r = 0 then 1 else 0) n)) ∧ V' = zt_ty V g n else rr = some (zg_i (-1)) ∧ V' = V)) := by
  have hn16 := hT.2.1
  have hkd0 : zt_kd (V (200 + 1)) := hkd1
  have hfb : zt_fw (V (200 + 1)) 31 1 < 32 := by
    rcases zt_fw_w (f := V (200 + 1)) 31 1 with z | z <;> omega
  have hshb : sh + 1 < 23 ∨ 38 < sh + 1 := by rcases hsh with q | q | q <;> omega
  generalize hQ : zq_r zk_K 242 (zk_P sh) (fun rr V' => if zt_fw (V 201) 31 1 = 0 then rr = some (zg_i (zs_sum (fun r => if V 20 r = 0 then 1 else 0) n)) ∧ V' = zt_ty V g n else rr = some (zg_i (-1)) ∧ V' = V) = Q
  refine zg_enter 2 (by decide) (Nat.le_of_ble_eq_true rfl) rfl ?_
  have loop : zt_fw (V 201) 31 1 = 0 → ∀ (j i : Nat), i + j = n → zg_G Γ (fun _ => True) zm_Tree_tally (zg_rm 3 0 0) (zg_Ω Γ (Q) 0 0) 0 0 16 [some (zg_r Γ (0)), some (zg_i (zs_sum (fun r => if V 20 r = 0 then 1 else 0) i)), some (zg_i ((i : Nat)))] [] zk_K 242 (zk_P sh) (zt_ty V g i) := by
    intro hfw j
    induction j with
    | zero =>
      intro i hij
      have e : i = n := by omega
      subst e
      have o1 : zt_ty V g i 1 3 = (i : Int) := by rw [zt_ty_o V g hn16 (by omega)]; exact hT.1
      refine zg_il2 zd_Tree_tally_16 ?_
      refine zg_al0 zd_Tree_tally_17 ?_
      refine zg_getr zd_Tree_tally_18 zf_293 (by omega) (by first | assumption | rfl) rfl (by first | assumption | rfl) ?_
      refine zg_geti zd_Tree_tally_21 zf_41 (by omega) (by first | assumption | rfl) rfl ?_
      rw [o1]
      refine zg_icmp_ge (tgt := 77) zd_Tree_tally_24 (by decide) (by omega) (by omega) (fun b24 => ?_) (fun b24 => ?_)
      · refine zg_il1 zd_Tree_tally_77 ?_
        refine zg_ireturn zd_Tree_tally_78 rfl ?_
        subst hQ
        refine ⟨rfl, rfl, rfl, ?_⟩
        show if _ then _ else _
        rw [if_pos hfw]
        exact ⟨rfl, rfl⟩
      · omega
    | succ j ih =>
      intro i hij
      have hi : i < 16 := by omega
      have oo : ∀ a, a < 23 ∨ 38 < a → zt_ty V g i a = V a := fun a ha => zt_ty_o V g (by omega) ha
      have o1 : zt_ty V g i 1 3 = (n : Int) := by rw [oo 1 (by omega)]; exact hT.1
      have o20 : zt_ty V g i 20 i = V 20 i := by rw [oo 20 (by omega)]
      have hw := hT.2.2.2.2.1 i hi
      have hs : 0 ≤ zs_sum (fun r => if V 20 r = 0 then 1 else 0) i ∧ zs_sum (fun r => if V 20 r = 0 then 1 else 0) i ≤ i := by
        have key : ∀ m : Nat, 0 ≤ zs_sum (fun r => if V 20 r = 0 then 1 else 0) m ∧ zs_sum (fun r => if V 20 r = 0 then 1 else 0) m ≤ m := by
          intro m
          induction m with
          | zero => exact ⟨Int.le_refl 0, Int.le_refl 0⟩
          | succ m ih =>
            rw [zs_sum_s]
            split <;> omega
        exact key i
      have step := zs_sum_s (fun r => if V 20 r = 0 then (1 : Int) else 0) i
      have skip : V 20 i ≠ 0 → zg_G Γ (fun _ => True) zm_Tree_tally (zg_rm 3 0 0) (zg_Ω Γ (Q) 0 0) 0 0 71 [some (zg_r Γ (0)), some (zg_i (zs_sum (fun r => if V 20 r = 0 then 1 else 0) i)), some (zg_i ((i : Nat)))] [] zk_K 242 (zk_P sh) (zt_ty V g i) := by
        intro hne
        have go := ih (i + 1) (by omega)
        rw [step, if_neg hne, Int.add_zero, ← zt_ty_n V g hne] at go
        refine zg_inc2 zd_Tree_tally_71 (fun w h => by cases h <;> rfl) (by decide) ?_
        refine zg_goto (tgt := 16) zd_Tree_tally_74 (by decide) ?_
        exact go
      have add : V 20 i = 0 → zg_G Γ (fun _ => True) zm_Tree_tally (zg_rm 3 0 0) (zg_Ω Γ (Q) 0 0) 0 0 39 [some (zg_r Γ (0)), some (zg_i (zs_sum (fun r => if V 20 r = 0 then 1 else 0) i)), some (zg_i ((i : Nat)))] [] zk_K 242 (zk_P sh) (zt_ty V g i) := by
        intro h0
        have go := ih (i + 1) (by omega)
        rw [step, if_pos h0, ← zt_ty_y V g h0] at go
        obtain ⟨g1, g2, g3⟩ := hg i (by omega)
        have main := ct_endOf (Γ := Γ) (sh := sh) (V := zt_ty V g i) hsh (by rw [oo _ hshb]; exact hkd) (q := 3 + i) (by omega) (zk_row i hi).1 (fun f hf => by rw [oo (3 + i) (by omega)]; exact hT.2.2.1 i f hi hf) (ft := ft) (bo := bo) (Lf := Lf) (ln := ln) (fun k hk q => by
          rw [oo _ hshb] at q
          exact zt_nd_fr (fun b b1 b2 => oo b (by omega)) (hN k hk q))
        rw [oo _ hshb, oo (3 + i) (by omega)] at main
        generalize hE : zr_rc (fun m => zt_at (V (sh + 1)) (m : Int)) (fun m => zw_go ((ft m, bo m, false, 0) :: Lf m) (V (3 + i)) (ln m)) 4 1 = E at *
        have hkE := (zk_node E g2).1
        have hpE := zp_nodes (sh := sh) g2
        have hpr := zp_values (sh := sh) hi
        have g3' : zt_ty V g i (40 + 5 * E) 1 = (g i : Int) := by rw [oo (40 + 5 * E) (by omega)]; exact g3
        refine zg_al0 zd_Tree_tally_39 ?_
        refine zg_getr zd_Tree_tally_40 zf_294 (by omega) (by first | assumption | rfl) rfl (by first | assumption | rfl) ?_
        refine zg_il2 zd_Tree_tally_43 ?_
        refine zg_al0 zd_Tree_tally_44 ?_
        refine zg_getr zd_Tree_tally_45 zf_295 (by omega) (by first | assumption | rfl) rfl (by first | assumption | rfl) ?_
        refine zg_al0 zd_Tree_tally_48 ?_
        refine zg_al0 zd_Tree_tally_49 ?_
        refine zg_getr zd_Tree_tally_50 zf_293 (by omega) (by first | assumption | rfl) rfl (by first | assumption | rfl) ?_
        refine zg_getr zd_Tree_tally_53 zf_34 (by omega) (by first | assumption | rfl) rfl (by first | assumption | rfl) ?_
        refine zg_il2 zd_Tree_tally_56 ?_
        refine zg_aald (j := i) zd_Tree_tally_57 (by omega) rfl rfl rfl rfl (by omega) (by decide) hpr ?_
        refine zg_cVp1 zd_Tree_tally_58 zM_Tree_endOf zw_569 zi_Tree_endOf zs_Tree_endOf (main) (by decide) (by decide) (by omega) (by first | assumption | rfl) (by decide) rfl (Nat.le_of_ble_eq_true rfl) ?_
        refine zg_aald (j := E) zd_Tree_tally_61 (by omega) rfl rfl rfl rfl (by omega) (by decide) hpE ?_
        refine zg_geti zd_Tree_tally_62 zf_122 (by omega) (by first | assumption | rfl) rfl ?_
        rw [g3']
        refine zg_cVq2 zd_Tree_tally_65 zM_Ballot_add zw_615 zi_Ballot_add zs_Ballot_add (ct_add hi g1) (by decide) (by decide) (by omega) (by first | assumption | rfl) (by decide) rfl (Nat.le_of_ble_eq_true rfl) ?_
        refine zg_inc1 zd_Tree_tally_68 (fun w h => by cases h <;> rfl) (by decide) ?_
        refine zg_inc2 zd_Tree_tally_71 (fun w h => by cases h <;> rfl) (by decide) ?_
        refine zg_goto (tgt := 16) zd_Tree_tally_74 (by decide) ?_
        exact go
      refine zg_il2 zd_Tree_tally_16 ?_
      refine zg_al0 zd_Tree_tally_17 ?_
      refine zg_getr zd_Tree_tally_18 zf_293 (by omega) (by first | assumption | rfl) rfl (by first | assumption | rfl) ?_
      refine zg_geti zd_Tree_tally_21 zf_41 (by omega) (by first | assumption | rfl) rfl ?_
      rw [o1]
      refine zg_icmp_ge (tgt := 77) zd_Tree_tally_24 (by decide) (by omega) (by omega) (fun b24 => ?_) (fun b24 => ?_)
      · omega
      · refine zg_al0 zd_Tree_tally_27 ?_
        refine zg_getr zd_Tree_tally_28 zf_293 (by omega) (by first | assumption | rfl) rfl (by first | assumption | rfl) ?_
        refine zg_getr zd_Tree_tally_31 zf_38 (by omega) (by first | assumption | rfl) rfl (by first | assumption | rfl) ?_
        refine zg_il2 zd_Tree_tally_34 ?_
        refine zg_iald (j := i) zd_Tree_tally_35 (by omega) rfl rfl (by omega) (by decide) ?_
        rw [o20]
        refine zg_if_ne (tgt := 71) zd_Tree_tally_36 (by decide) (by omega) (fun b36 => ?_) (fun b36 => ?_)
        · exact skip b36
        · exact add (by omega)
  refine zg_al0 zd_Tree_tally_0 ?_
  refine zg_getr zd_Tree_tally_1 zf_296 (by omega) (by first | assumption | rfl) rfl (by first | assumption | rfl) ?_
  refine zg_cVp0 zd_Tree_tally_4 zM_Shape_firstWaiting zw_393 zi_Shape_firstWaiting zs_Shape_firstWaiting (ct_hfw (Or.inl rfl) hkd0) (by decide) (by decide) (by omega) (by first | assumption | rfl) (by decide) rfl (Nat.le_of_ble_eq_true rfl) ?_
  refine zg_if_eq (tgt := 12) zd_Tree_tally_7 (by decide) (by omega) (fun b7 => ?_) (fun b7 => ?_)
  · refine zg_iconst zd_Tree_tally_12 ?_
    refine zg_is1 zd_Tree_tally_13 (fun w h => by cases h <;> rfl) (by decide) ?_
    refine zg_iconst zd_Tree_tally_14 ?_
    refine zg_is2 zd_Tree_tally_15 (fun w h => by cases h <;> rfl) (by decide) ?_
    have go := loop (by show zt_fw (V (200 + 1)) 31 1 = 0; omega) n 0 (by omega)
    rw [zt_ty_0] at go
    exact go
  · refine zg_iconst zd_Tree_tally_10 ?_
    refine zg_ireturn zd_Tree_tally_11 rfl ?_
    subst hQ
    refine ⟨rfl, rfl, rfl, ?_⟩
    show if _ then _ else _
    rw [if_neg (fun z => by have h : zt_fw (V (200 + 1)) 31 1 = 0 := z; omega)]
    exact ⟨rfl, rfl⟩
end ZT47

