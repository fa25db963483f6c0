/-! stand-ins -/
def zy_in (L : List zw_E) (e : zw_E) : List zw_E := match L with
  | [] => [e]
  | [x] => if x.2.2.2 < e.2.2.2 then [e, x] else [x, e]
  | _ => L ++ [e]
def zt_ls (V : zg_V) (b : Nat) (L : List zw_E) : Prop := V b 8 = (L.length : Int) ∧ L.length ≤ 2 ∧ ∀ (i : Nat) (e : zw_E), L[i]? = some e → zt_si V (b + 3 + i) e
theorem zt_si_fr {V V' : zg_V} {q q' : Nat} {e : zw_E} (h : ∀ j, j < 4 → V' q' j = V q j) (hs : zt_si V q e) : zt_si V' q' e := by
  obtain ⟨h1, h2, h3, h4, h5, h6, h7⟩ := hs
  exact ⟨by rw [h 0 (by decide)]; exact h1, h2, by rw [h 1 (by decide)]; exact h3, h4, by rw [h 2 (by decide)]; exact h5, by rw [h 3 (by decide)]; exact h6, h7⟩
theorem zf_st_at (V : zg_V) (a : Nat) (x y z w : Int) : zf_st V a x y z w a 0 = x ∧ zf_st V a x y z w a 1 = y ∧ zf_st V a x y z w a 2 = z ∧ zf_st V a x y z w a 3 = w := by
  simp [zf_st, zg_u]
theorem zf_st_o (V : zg_V) (a : Nat) (x y z w : Int) {b : Nat} (h : b ≠ a) : zf_st V a x y z w b = V b := by
  unfold zf_st
  rw [zg_u_out _ _ _ _ h, zg_u_out _ _ _ _ h, zg_u_out _ _ _ _ h, zg_u_out _ _ _ _ h]
theorem zt_si_cp {V : zg_V} {a o : Nat} {e : zw_E} (hs : zt_si V o e) : zt_si (zf_st V a (V o 0) (V o 1) (V o 2) (V o 3)) a e := by
  refine zt_si_fr (V := V) (q := o) (fun j hj => ?_) hs
  obtain ⟨h0, h1, h2, h3⟩ := zf_st_at V a (V o 0) (V o 1) (V o 2) (V o 3)
  match j, hj with
  | 0, _ => exact h0
  | 1, _ => exact h1
  | 2, _ => exact h2
  | 3, _ => exact h3
section ZT11
variable {Γ : zg_C} {V : zg_V} {k sh : Nat}
theorem ct_addS (hk : k < 32) {L : List zw_E} {e : zw_E} (hL : zt_ls V (40 + 5 * k) L) (hL1 : L.length ≤ 1) (he : zt_si V 213 e) : zg_S Γ zm_Node_addStandIn 1 0 0 [zg_r Γ (40 + 5 * k), zg_r Γ 213] zk_K 242 (zk_P sh) V (zq_r zk_K 242 (zk_P sh) (fun rr V' => rr = none ∧ zv_on (fun a => a = 40 + 5 * k ∨ a = 43 + 5 * k ∨ a = 44 + 5 * k) V V' ∧ (∀ j, j ≠ 8 → V' (40 + 5 * k) j = V (40 + 5 * k) j) ∧ zt_ls V' (40 + 5 * k) (zy_in L e))) := by
  obtain ⟨hkn, -, hka, hk0, hk1⟩ := zk_node k hk
  obtain ⟨-, hp7, hp0, hp1⟩ := zp_node (sh := sh) hk
  obtain ⟨l1, l2, l3⟩ := hL
  have hz : V 213 2 = 0 ∨ V 213 2 = 1 := by rw [he.2.2.2.2.1]; exact zg_b01 _
  have hk213 : zk_K 213 = (0, 5) := rfl
  match L, hL1, l1, l2, l3 with
  | [], _, l1, _, _ =>
    have l1 : V (40 + 5 * k) 8 = 0 := l1
    have c1 : zf_st V (43 + 5 * k) (V 213 0) (V 213 1) (V 213 2) (V 213 3) (40 + 5 * k) 8 = 0 := by rw [zf_st_o _ _ _ _ _ _ (by omega)]; exact l1
    generalize hQ : zq_r zk_K 242 (zk_P sh) (fun rr V' => rr = none ∧ zv_on (fun a => a = 40 + 5 * k ∨ a = 43 + 5 * k ∨ a = 44 + 5 * k) V V' ∧ (∀ j, j ≠ 8 → V' (40 + 5 * k) j = V (40 + 5 * k) j) ∧ zt_ls V' (40 + 5 * k) (zy_in L e)) = Q
    refine zg_enter 1 (by decide) (Nat.le_of_ble_eq_true rfl) rfl ?_
    refine zg_al0 zd_Node_addStandIn_0 ?_
    refine zg_geti zd_Node_addStandIn_1 zf_142 (by omega) (by first | assumption | rfl) rfl ?_
    rw [l1]
    refine zg_is2 zd_Node_addStandIn_4 (fun w h => by cases h <;> rfl) (by decide) ?_
    refine zg_il2 zd_Node_addStandIn_5 ?_
    refine zg_iconst zd_Node_addStandIn_6 ?_
    refine zg_icmp_ne (tgt := 43) zd_Node_addStandIn_7 (by decide) (by omega) (by omega) (fun b7 => ?_) (fun b7 => ?_)
    · refine zg_al0 zd_Node_addStandIn_43 ?_
      refine zg_getr zd_Node_addStandIn_44 zf_139 (by omega) (by first | assumption | rfl) rfl (by first | assumption | rfl) ?_
      refine zg_il2 zd_Node_addStandIn_47 ?_
      refine zg_aald (j := 0) zd_Node_addStandIn_48 (by omega) hka rfl rfl rfl (by omega) (by decide) hp0 ?_
      refine zg_al1 zd_Node_addStandIn_49 ?_
      refine zg_cVq1 zd_Node_addStandIn_50 zM_StandIn_copyFrom zw_506 zi_StandIn_copyFrom zs_StandIn_copyFrom (ct_scopy (by omega) (by decide) hk0 hk213 hz) (by decide) (by decide) (by omega) (by first | assumption | rfl) (by decide) rfl (Nat.le_of_ble_eq_true rfl) ?_
      refine zg_al0 zd_Node_addStandIn_53 ?_
      refine zg_dup zd_Node_addStandIn_54 rfl ?_
      refine zg_geti zd_Node_addStandIn_55 zf_142 (by omega) (by first | assumption | rfl) rfl ?_
      rw [c1]
      refine zg_iconst zd_Node_addStandIn_58 ?_
      refine zg_iadd zd_Node_addStandIn_59 ?_
      refine zg_puti zd_Node_addStandIn_60 zf_142 rfl (by omega) (by first | assumption | rfl) rfl ?_
      refine zg_return zd_Node_addStandIn_63 rfl ?_
      subst hQ
      refine ⟨rfl, rfl, rfl, rfl, ?_, ?_, ?_, by show 1 ≤ 2; decide, ?_⟩
      · intro b hb
        rw [zg_u_out _ _ _ _ (by omega), zf_st_o _ _ _ _ _ _ (by omega)]
      · intro j hj
        rw [zg_u_off _ _ _ _ hj, zf_st_o _ _ _ _ _ _ (by omega)]
      · rw [zg_u_in]; rfl
      · intro i x hx
        match i, hx with
        | 0, hx =>
          have hx : e = x := Option.some.inj hx
          subst hx
          refine zt_si_fr (V := zf_st V (43 + 5 * k) (V 213 0) (V 213 1) (V 213 2) (V 213 3)) (q := 43 + 5 * k) (fun j _ => ?_) (zt_si_cp he)
          rw [zg_u_out _ _ _ _ (by omega), show 40 + 5 * k + 3 + 0 = 43 + 5 * k by omega]
        | i + 1, hx => simp [zy_in] at hx
    · omega
  | [x], _, l1, _, l3 =>
    have l1 : V (40 + 5 * k) 8 = 1 := l1
    have hx0 : zt_si V (43 + 5 * k) x := by
      have := l3 0 x rfl
      rw [show 40 + 5 * k + 3 + 0 = 43 + 5 * k by omega] at this
      exact this
    have e3 : V 213 3 = e.2.2.2 := he.2.2.2.2.2.1
    have e3b := he.2.2.2.2.2.2
    have x3 : V (43 + 5 * k) 3 = x.2.2.2 := hx0.2.2.2.2.2.1
    have x3b := hx0.2.2.2.2.2.2
    have hzx : V (43 + 5 * k) 2 = 0 ∨ V (43 + 5 * k) 2 = 1 := by rw [hx0.2.2.2.2.1]; exact zg_b01 _
    generalize hA : zf_st V (44 + 5 * k) (V (43 + 5 * k) 0) (V (43 + 5 * k) 1) (V (43 + 5 * k) 2) (V (43 + 5 * k) 3) = A
    have hAo : ∀ b, b ≠ 44 + 5 * k → A b = V b := fun b hb => by rw [← hA, zf_st_o _ _ _ _ _ _ hb]
    have hA44 : zt_si A (44 + 5 * k) x := by rw [← hA]; exact zt_si_cp hx0
    have hAe : zt_si A 213 e := zt_si_fr (fun j _ => by rw [hAo _ (by omega)]) he
    have hzA : A 213 2 = 0 ∨ A 213 2 = 1 := by rw [hAo _ (by omega)]; exact hz
    have c1 : zf_st A (43 + 5 * k) (A 213 0) (A 213 1) (A 213 2) (A 213 3) (40 + 5 * k) 8 = 1 := by rw [zf_st_o _ _ _ _ _ _ (by omega), hAo _ (by omega)]; exact l1
    have c2 : zf_st V (44 + 5 * k) (V 213 0) (V 213 1) (V 213 2) (V 213 3) (40 + 5 * k) 8 = 1 := by rw [zf_st_o _ _ _ _ _ _ (by omega)]; exact l1
    generalize hQ : zq_r zk_K 242 (zk_P sh) (fun rr V' => rr = none ∧ zv_on (fun a => a = 40 + 5 * k ∨ a = 43 + 5 * k ∨ a = 44 + 5 * k) V V' ∧ (∀ j, j ≠ 8 → V' (40 + 5 * k) j = V (40 + 5 * k) j) ∧ zt_ls V' (40 + 5 * k) (zy_in [x] e)) = Q
    refine zg_enter 1 (by decide) (Nat.le_of_ble_eq_true rfl) rfl ?_
    refine zg_al0 zd_Node_addStandIn_0 ?_
    refine zg_geti zd_Node_addStandIn_1 zf_142 (by omega) (by first | assumption | rfl) rfl ?_
    rw [l1]
    refine zg_is2 zd_Node_addStandIn_4 (fun w h => by cases h <;> rfl) (by decide) ?_
    refine zg_il2 zd_Node_addStandIn_5 ?_
    refine zg_iconst zd_Node_addStandIn_6 ?_
    refine zg_icmp_ne (tgt := 43) zd_Node_addStandIn_7 (by decide) (by omega) (by omega) (fun b7 => ?_) (fun b7 => ?_)
    · skip
      refine zg_al0 zd_Node_addStandIn_43 ?_
      refine zg_getr zd_Node_addStandIn_44 zf_139 (by omega) (by first | assumption | rfl) rfl (by first | assumption | rfl) ?_
      refine zg_il2 zd_Node_addStandIn_47 ?_
      first | refine zg_aald (j := 0) zd_Node_addStandIn_48 (by omega) hka rfl rfl rfl (by omega) (by decide) hp0 ?_ | refine zg_aald (j := 1) zd_Node_addStandIn_48 (by omega) hka rfl rfl rfl (by omega) (by decide) hp1 ?_
      refine zg_al1 zd_Node_addStandIn_49 ?_
      first | refine zg_cVq1 zd_Node_addStandIn_50 zM_StandIn_copyFrom zw_506 zi_StandIn_copyFrom zs_StandIn_copyFrom (ct_scopy (by omega) (by decide) hk0 hk213 hzA) (by decide) (by decide) (by omega) hk0 (by decide) rfl (Nat.le_of_ble_eq_true rfl) ?_ | refine zg_cVq1 zd_Node_addStandIn_50 zM_StandIn_copyFrom zw_506 zi_StandIn_copyFrom zs_StandIn_copyFrom (ct_scopy (by omega) (by decide) hk1 hk213 hz) (by decide) (by decide) (by omega) hk1 (by decide) rfl (Nat.le_of_ble_eq_true rfl) ?_
      refine zg_al0 zd_Node_addStandIn_53 ?_
      refine zg_dup zd_Node_addStandIn_54 rfl ?_
      refine zg_geti zd_Node_addStandIn_55 zf_142 (by omega) (by first | assumption | rfl) rfl ?_
      first | rw [c1] | rw [c2]
      refine zg_iconst zd_Node_addStandIn_58 ?_
      refine zg_iadd zd_Node_addStandIn_59 ?_
      refine zg_puti zd_Node_addStandIn_60 zf_142 rfl (by omega) (by first | assumption | rfl) rfl ?_
      refine zg_return zd_Node_addStandIn_63 rfl ?_
      subst hQ
      first
        | omega
        | (refine ⟨rfl, rfl, rfl, rfl, ?_, ?_, ?_⟩
           · intro b hb
             rw [zg_u_out _ _ _ _ (by omega), zf_st_o _ _ _ _ _ _ (by omega), hAo _ (by omega)]
           · intro j hj
             rw [zg_u_off _ _ _ _ hj, zf_st_o _ _ _ _ _ _ (by omega), hAo _ (by omega)]
           · have hin : zy_in [x] e = [e, x] := by show (if x.2.2.2 < e.2.2.2 then _ else _) = _; rw [if_pos (by omega)]
             rw [hin]
             refine ⟨by rw [zg_u_in]; rfl, by show 2 ≤ 2; decide, fun i y hy => ?_⟩
             match i, hy with
             | 0, hy =>
               have hy : e = y := Option.some.inj hy
               subst hy
               refine zt_si_fr (V := zf_st A (43 + 5 * k) (A 213 0) (A 213 1) (A 213 2) (A 213 3)) (q := 43 + 5 * k) (fun j _ => ?_) (zt_si_cp hAe)
               rw [zg_u_out _ _ _ _ (by omega), show 40 + 5 * k + 3 + 0 = 43 + 5 * k by omega]
             | 1, hy =>
               have hy : x = y := Option.some.inj hy
               subst hy
               refine zt_si_fr (V := A) (q := 44 + 5 * k) (fun j _ => ?_) hA44
               rw [zg_u_out _ _ _ _ (by omega), zf_st_o _ _ _ _ _ _ (by omega), show 40 + 5 * k + 3 + 1 = 44 + 5 * k by omega]
             | i + 2, hy => simp at hy)
        | (refine ⟨rfl, rfl, rfl, rfl, ?_, ?_, ?_⟩
           · intro b hb
             rw [zg_u_out _ _ _ _ (by omega), zf_st_o _ _ _ _ _ _ (by omega)]
           · intro j hj
             rw [zg_u_off _ _ _ _ hj, zf_st_o _ _ _ _ _ _ (by omega)]
           · have hin : zy_in [x] e = [x, e] := by show (if x.2.2.2 < e.2.2.2 then _ else _) = _; rw [if_neg (by omega)]
             rw [hin]
             refine ⟨by rw [zg_u_in]; rfl, by show 2 ≤ 2; decide, fun i y hy => ?_⟩
             match i, hy with
             | 0, hy =>
               have hy : x = y := Option.some.inj hy
               subst hy
               refine zt_si_fr (V := V) (q := 43 + 5 * k) (fun j _ => ?_) hx0
               rw [zg_u_out _ _ _ _ (by omega), zf_st_o _ _ _ _ _ _ (by omega), show 40 + 5 * k + 3 + 0 = 43 + 5 * k by omega]
             | 1, hy =>
               have hy : e = y := Option.some.inj hy
               subst hy
               refine zt_si_fr (V := zf_st V (44 + 5 * k) (V 213 0) (V 213 1) (V 213 2) (V 213 3)) (q := 44 + 5 * k) (fun j _ => ?_) (zt_si_cp he)
               rw [zg_u_out _ _ _ _ (by omega), show 40 + 5 * k + 3 + 1 = 44 + 5 * k by omega]
             | i + 2, hy => simp at hy)
    · refine zg_al1 zd_Node_addStandIn_10 ?_
      refine zg_geti zd_Node_addStandIn_11 zf_107 (by omega) (by first | assumption | rfl) rfl ?_
      refine zg_al0 zd_Node_addStandIn_14 ?_
      refine zg_getr zd_Node_addStandIn_15 zf_139 (by omega) (by first | assumption | rfl) rfl (by first | assumption | rfl) ?_
      refine zg_iconst zd_Node_addStandIn_18 ?_
      refine zg_aald (j := 0) zd_Node_addStandIn_19 (by omega) hka rfl rfl rfl (by omega) (by decide) hp0 ?_
      refine zg_geti zd_Node_addStandIn_20 zf_107 (by omega) (by first | assumption | rfl) rfl ?_
      rw [e3, x3]
      refine zg_icmp_le (tgt := 43) zd_Node_addStandIn_23 (by decide) (by omega) (by omega) (fun b23 => ?_) (fun b23 => ?_)
      · skip
        refine zg_al0 zd_Node_addStandIn_43 ?_
        refine zg_getr zd_Node_addStandIn_44 zf_139 (by omega) (by first | assumption | rfl) rfl (by first | assumption | rfl) ?_
        refine zg_il2 zd_Node_addStandIn_47 ?_
        first | refine zg_aald (j := 0) zd_Node_addStandIn_48 (by omega) hka rfl rfl rfl (by omega) (by decide) hp0 ?_ | refine zg_aald (j := 1) zd_Node_addStandIn_48 (by omega) hka rfl rfl rfl (by omega) (by decide) hp1 ?_
        refine zg_al1 zd_Node_addStandIn_49 ?_
        first | refine zg_cVq1 zd_Node_addStandIn_50 zM_StandIn_copyFrom zw_506 zi_StandIn_copyFrom zs_StandIn_copyFrom (ct_scopy (by omega) (by decide) hk0 hk213 hzA) (by decide) (by decide) (by omega) hk0 (by decide) rfl (Nat.le_of_ble_eq_true rfl) ?_ | refine zg_cVq1 zd_Node_addStandIn_50 zM_StandIn_copyFrom zw_506 zi_StandIn_copyFrom zs_StandIn_copyFrom (ct_scopy (by omega) (by decide) hk1 hk213 hz) (by decide) (by decide) (by omega) hk1 (by decide) rfl (Nat.le_of_ble_eq_true rfl) ?_
        refine zg_al0 zd_Node_addStandIn_53 ?_
        refine zg_dup zd_Node_addStandIn_54 rfl ?_
        refine zg_geti zd_Node_addStandIn_55 zf_142 (by omega) (by first | assumption | rfl) rfl ?_
        first | rw [c1] | rw [c2]
        refine zg_iconst zd_Node_addStandIn_58 ?_
        refine zg_iadd zd_Node_addStandIn_59 ?_
        refine zg_puti zd_Node_addStandIn_60 zf_142 rfl (by omega) (by first | assumption | rfl) rfl ?_
        refine zg_return zd_Node_addStandIn_63 rfl ?_
        subst hQ
        first
          | omega
          | (refine ⟨rfl, rfl, rfl, rfl, ?_, ?_, ?_⟩
             · intro b hb
               rw [zg_u_out _ _ _ _ (by omega), zf_st_o _ _ _ _ _ _ (by omega), hAo _ (by omega)]
             · intro j hj
               rw [zg_u_off _ _ _ _ hj, zf_st_o _ _ _ _ _ _ (by omega), hAo _ (by omega)]
             · have hin : zy_in [x] e = [e, x] := by show (if x.2.2.2 < e.2.2.2 then _ else _) = _; rw [if_pos (by omega)]
               rw [hin]
               refine ⟨by rw [zg_u_in]; rfl, by show 2 ≤ 2; decide, fun i y hy => ?_⟩
               match i, hy with
               | 0, hy =>
                 have hy : e = y := Option.some.inj hy
                 subst hy
                 refine zt_si_fr (V := zf_st A (43 + 5 * k) (A 213 0) (A 213 1) (A 213 2) (A 213 3)) (q := 43 + 5 * k) (fun j _ => ?_) (zt_si_cp hAe)
                 rw [zg_u_out _ _ _ _ (by omega), show 40 + 5 * k + 3 + 0 = 43 + 5 * k by omega]
               | 1, hy =>
                 have hy : x = y := Option.some.inj hy
                 subst hy
                 refine zt_si_fr (V := A) (q := 44 + 5 * k) (fun j _ => ?_) hA44
                 rw [zg_u_out _ _ _ _ (by omega), zf_st_o _ _ _ _ _ _ (by omega), show 40 + 5 * k + 3 + 1 = 44 + 5 * k by omega]
               | i + 2, hy => simp at hy)
          | (refine ⟨rfl, rfl, rfl, rfl, ?_, ?_, ?_⟩
             · intro b hb
               rw [zg_u_out _ _ _ _ (by omega), zf_st_o _ _ _ _ _ _ (by omega)]
             · intro j hj
               rw [zg_u_off _ _ _ _ hj, zf_st_o _ _ _ _ _ _ (by omega)]
             · have hin : zy_in [x] e = [x, e] := by show (if x.2.2.2 < e.2.2.2 then _ else _) = _; rw [if_neg (by omega)]
               rw [hin]
               refine ⟨by rw [zg_u_in]; rfl, by show 2 ≤ 2; decide, fun i y hy => ?_⟩
               match i, hy with
               | 0, hy =>
                 have hy : x = y := Option.some.inj hy
                 subst hy
                 refine zt_si_fr (V := V) (q := 43 + 5 * k) (fun j _ => ?_) hx0
                 rw [zg_u_out _ _ _ _ (by omega), zf_st_o _ _ _ _ _ _ (by omega), show 40 + 5 * k + 3 + 0 = 43 + 5 * k by omega]
               | 1, hy =>
                 have hy : e = y := Option.some.inj hy
                 subst hy
                 refine zt_si_fr (V := zf_st V (44 + 5 * k) (V 213 0) (V 213 1) (V 213 2) (V 213 3)) (q := 44 + 5 * k) (fun j _ => ?_) (zt_si_cp he)
                 rw [zg_u_out _ _ _ _ (by omega), show 40 + 5 * k + 3 + 1 = 44 + 5 * k by omega]
               | i + 2, hy => simp at hy)
      · refine zg_al0 zd_Node_addStandIn_26 ?_
        refine zg_getr zd_Node_addStandIn_27 zf_139 (by omega) (by first | assumption | rfl) rfl (by first | assumption | rfl) ?_
        refine zg_iconst zd_Node_addStandIn_30 ?_
        refine zg_aald (j := 1) zd_Node_addStandIn_31 (by omega) hka rfl rfl rfl (by omega) (by decide) hp1 ?_
        refine zg_al0 zd_Node_addStandIn_32 ?_
        refine zg_getr zd_Node_addStandIn_33 zf_139 (by omega) (by first | assumption | rfl) rfl (by first | assumption | rfl) ?_
        refine zg_iconst zd_Node_addStandIn_36 ?_
        refine zg_aald (j := 0) zd_Node_addStandIn_37 (by omega) hka rfl rfl rfl (by omega) (by decide) hp0 ?_
        refine zg_cVq1 zd_Node_addStandIn_38 zM_StandIn_copyFrom zw_506 zi_StandIn_copyFrom zs_StandIn_copyFrom (ct_scopy (by omega) (by omega) hk1 hk0 hzx) (by decide) (by decide) (by omega) (by first | assumption | rfl) (by decide) rfl (Nat.le_of_ble_eq_true rfl) ?_
        rw [hA]
        refine zg_iconst zd_Node_addStandIn_41 ?_
        refine zg_is2 zd_Node_addStandIn_42 (fun w h => by cases h <;> rfl) (by decide) ?_
        skip
        refine zg_al0 zd_Node_addStandIn_43 ?_
        refine zg_getr zd_Node_addStandIn_44 zf_139 (by omega) (by first | assumption | rfl) rfl (by first | assumption | rfl) ?_
        refine zg_il2 zd_Node_addStandIn_47 ?_
        first | refine zg_aald (j := 0) zd_Node_addStandIn_48 (by omega) hka rfl rfl rfl (by omega) (by decide) hp0 ?_ | refine zg_aald (j := 1) zd_Node_addStandIn_48 (by omega) hka rfl rfl rfl (by omega) (by decide) hp1 ?_
        refine zg_al1 zd_Node_addStandIn_49 ?_
        first | refine zg_cVq1 zd_Node_addStandIn_50 zM_StandIn_copyFrom zw_506 zi_StandIn_copyFrom zs_StandIn_copyFrom (ct_scopy (by omega) (by decide) hk0 hk213 hzA) (by decide) (by decide) (by omega) hk0 (by decide) rfl (Nat.le_of_ble_eq_true rfl) ?_ | refine zg_cVq1 zd_Node_addStandIn_50 zM_StandIn_copyFrom zw_506 zi_StandIn_copyFrom zs_StandIn_copyFrom (ct_scopy (by omega) (by decide) hk1 hk213 hz) (by decide) (by decide) (by omega) hk1 (by decide) rfl (Nat.le_of_ble_eq_true rfl) ?_
        refine zg_al0 zd_Node_addStandIn_53 ?_
        refine zg_dup zd_Node_addStandIn_54 rfl ?_
        refine zg_geti zd_Node_addStandIn_55 zf_142 (by omega) (by first | assumption | rfl) rfl ?_
        first | rw [c1] | rw [c2]
        refine zg_iconst zd_Node_addStandIn_58 ?_
        refine zg_iadd zd_Node_addStandIn_59 ?_
        refine zg_puti zd_Node_addStandIn_60 zf_142 rfl (by omega) (by first | assumption | rfl) rfl ?_
        refine zg_return zd_Node_addStandIn_63 rfl ?_
        subst hQ
        first
          | omega
          | (refine ⟨rfl, rfl, rfl, rfl, ?_, ?_, ?_⟩
             · intro b hb
               rw [zg_u_out _ _ _ _ (by omega), zf_st_o _ _ _ _ _ _ (by omega), hAo _ (by omega)]
             · intro j hj
               rw [zg_u_off _ _ _ _ hj, zf_st_o _ _ _ _ _ _ (by omega), hAo _ (by omega)]
             · have hin : zy_in [x] e = [e, x] := by show (if x.2.2.2 < e.2.2.2 then _ else _) = _; rw [if_pos (by omega)]
               rw [hin]
               refine ⟨by rw [zg_u_in]; rfl, by show 2 ≤ 2; decide, fun i y hy => ?_⟩
               match i, hy with
               | 0, hy =>
                 have hy : e = y := Option.some.inj hy
                 subst hy
                 refine zt_si_fr (V := zf_st A (43 + 5 * k) (A 213 0) (A 213 1) (A 213 2) (A 213 3)) (q := 43 + 5 * k) (fun j _ => ?_) (zt_si_cp hAe)
                 rw [zg_u_out _ _ _ _ (by omega), show 40 + 5 * k + 3 + 0 = 43 + 5 * k by omega]
               | 1, hy =>
                 have hy : x = y := Option.some.inj hy
                 subst hy
                 refine zt_si_fr (V := A) (q := 44 + 5 * k) (fun j _ => ?_) hA44
                 rw [zg_u_out _ _ _ _ (by omega), zf_st_o _ _ _ _ _ _ (by omega), show 40 + 5 * k + 3 + 1 = 44 + 5 * k by omega]
               | i + 2, hy => simp at hy)
          | (refine ⟨rfl, rfl, rfl, rfl, ?_, ?_, ?_⟩
             · intro b hb
               rw [zg_u_out _ _ _ _ (by omega), zf_st_o _ _ _ _ _ _ (by omega)]
             · intro j hj
               rw [zg_u_off _ _ _ _ hj, zf_st_o _ _ _ _ _ _ (by omega)]
             · have hin : zy_in [x] e = [x, e] := by show (if x.2.2.2 < e.2.2.2 then _ else _) = _; rw [if_neg (by omega)]
               rw [hin]
               refine ⟨by rw [zg_u_in]; rfl, by show 2 ≤ 2; decide, fun i y hy => ?_⟩
               match i, hy with
               | 0, hy =>
                 have hy : x = y := Option.some.inj hy
                 subst hy
                 refine zt_si_fr (V := V) (q := 43 + 5 * k) (fun j _ => ?_) hx0
                 rw [zg_u_out _ _ _ _ (by omega), zf_st_o _ _ _ _ _ _ (by omega), show 40 + 5 * k + 3 + 0 = 43 + 5 * k by omega]
               | 1, hy =>
                 have hy : e = y := Option.some.inj hy
                 subst hy
                 refine zt_si_fr (V := zf_st V (44 + 5 * k) (V 213 0) (V 213 1) (V 213 2) (V 213 3)) (q := 44 + 5 * k) (fun j _ => ?_) (zt_si_cp he)
                 rw [zg_u_out _ _ _ _ (by omega), show 40 + 5 * k + 3 + 1 = 44 + 5 * k by omega]
               | i + 2, hy => simp at hy)
  | _ :: _ :: _, hL1, _, _, _ => simp at hL1
/-- the search's own stand-in, at 213 -/
def zy_of (V : zg_V) (lim : Int) (tu : Int) (ag : Int) : zg_V := zg_u (zg_u (zg_u V 213 1 lim) 213 2 tu) 213 3 ag
theorem ct_soffer {lim ag tu : Int} (htu : tu = 0 ∨ tu = 1) (hag : -2147483648 ≤ ag ∧ ag < 2147483648) (hv : -2147483648 ≤ V 213 3 ∧ V 213 3 < 2147483648) : zg_S Γ zm_StandInSearch_offer 0 0 0 [zg_r Γ 210, zg_i lim, zg_i tu, zg_i ag] zk_K 242 (zk_P sh) V (zq_p zk_K 242 (zk_P sh) (if V 213 3 < ag then zy_of V lim tu ag else V) none) := by
  refine zg_enter 0 (by decide) (Nat.le_of_ble_eq_true rfl) rfl ?_
  refine zg_il3 zd_StandInSearch_offer_0 ?_
  refine zg_al0 zd_StandInSearch_offer_1 ?_
  refine zg_getr zd_StandInSearch_offer_2 zf_229 (by omega) (by first | assumption | rfl) rfl (by first | assumption | rfl) ?_
  refine zg_geti zd_StandInSearch_offer_5 zf_106 (by omega) (by first | assumption | rfl) rfl ?_
  refine zg_icmp_le (tgt := 35) zd_StandInSearch_offer_8 (by decide) (by omega) (by omega) (fun b8 => ?_) (fun b8 => ?_)
  · refine zg_return zd_StandInSearch_offer_35 rfl ?_
    first | (rw [if_neg (by omega)]; exact ⟨rfl, rfl, rfl, rfl, rfl⟩) | (rw [if_pos (by omega)]; exact ⟨rfl, rfl, rfl, rfl, rfl⟩)
  · refine zg_al0 zd_StandInSearch_offer_11 ?_
    refine zg_getr zd_StandInSearch_offer_12 zf_229 (by omega) (by first | assumption | rfl) rfl (by first | assumption | rfl) ?_
    refine zg_il1 zd_StandInSearch_offer_15 ?_
    refine zg_puti zd_StandInSearch_offer_16 zf_101 rfl (by omega) (by first | assumption | rfl) rfl ?_
    refine zg_al0 zd_StandInSearch_offer_19 ?_
    refine zg_getr zd_StandInSearch_offer_20 zf_229 (by omega) (by first | assumption | rfl) rfl (by first | assumption | rfl) ?_
    refine zg_il2 zd_StandInSearch_offer_23 ?_
    refine zg_putz zd_StandInSearch_offer_24 zf_104 rfl (by omega) (by first | assumption | rfl) rfl (by omega) ?_
    refine zg_al0 zd_StandInSearch_offer_27 ?_
    refine zg_getr zd_StandInSearch_offer_28 zf_229 (by omega) (by first | assumption | rfl) rfl (by first | assumption | rfl) ?_
    refine zg_il3 zd_StandInSearch_offer_31 ?_
    refine zg_puti zd_StandInSearch_offer_32 zf_106 rfl (by omega) (by first | assumption | rfl) rfl ?_
    refine zg_return zd_StandInSearch_offer_35 rfl ?_
    first | (rw [if_neg (by omega)]; exact ⟨rfl, rfl, rfl, rfl, rfl⟩) | (rw [if_pos (by omega)]; exact ⟨rfl, rfl, rfl, rfl, rfl⟩)
end ZT11

