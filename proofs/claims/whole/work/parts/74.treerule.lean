/-! the tree: rule, threshold, reach -/
/-- the answer of threshold -/
def zr_tl (kv : Int) (l0 : Int) (L : List zw_E) (i : Int) : Int := if kv = 2 ∧ 0 ≤ i ∧ i ≤ 2 then (if i = 0 then l0 else match L[i.toNat - 1]? with
  | none => 0
  | some e => e.2.1) else 0
section ZT46
variable {Γ : zg_C} {V : zg_V} {sh : Nat}
theorem zt_at_b {f : Nat → Int} (hkd : zt_kd f) (k : Int) : (-1 ≤ zt_at f k ∧ zt_at f k ≤ 2) ∧ (¬ zt_at f k = -1 → 1 ≤ k ∧ k < 32) := by
  unfold zt_at
  split
  · rename_i h
    have := hkd k.toNat (by omega)
    omega
  · omega
theorem ct_rule (hsh : zk_sh sh) (hkd : zt_kd (V (sh + 1))) {k i l : Int} {f : Nat} {L : List zw_E} {lean : Bool} (hk : -2147483648 ≤ k ∧ k < 2147483648) (hi : -2147483648 ≤ i ∧ i < 2147483648) (hN : zt_at (V (sh + 1)) k = 2 → zt_nd V (40 + 5 * k.toNat) f l L lean) : zg_S Γ zm_Tree_rule 1 0 0 [zg_r Γ 0, zg_i k, zg_i i] zk_K 242 (zk_P sh) V (zq_p zk_K 242 (zk_P sh) V (some (zg_i (zr_rl (zt_at (V (sh + 1)) k) f L i)))) := by
  obtain ⟨h1, h2, h3, h4⟩ := zk_shf hsh
  have hb := zt_at_b hkd k
  generalize hQ : zq_p zk_K 242 (zk_P sh) V (some (zg_i (zr_rl (zt_at (V (sh + 1)) k) f L i))) = Q
  refine zg_enter 1 (by decide) (Nat.le_of_ble_eq_true rfl) rfl ?_
  have body : zt_at (V (sh + 1)) k = 2 → zg_G Γ (fun _ => True) zm_Tree_rule (zg_rm 1 0 0) (zg_Ω Γ (Q) 0 0) 0 0 14 [some (zg_r Γ (0)), some (zg_i (k)), some (zg_i (i)), none] [] zk_K 242 (zk_P sh) (V) := by
    intro hkv
    have hr := hb.2 (by omega)
    have hN := hN hkv
    obtain ⟨κ, hκ⟩ : ∃ κ : Nat, k = (κ : Int) := ⟨k.toNat, by omega⟩
    subst hκ
    rw [show ((κ : Int)).toNat = κ by omega] at hN
    have hk32 : κ < 32 := by omega
    obtain ⟨n1, n2, n3, n4, n5, n6, n7, n8⟩ := hN
    have hkn := zk_node κ hk32
    have hkn1 := hkn.1
    have hkn3 := hkn.2.2.1
    have hnode := zp_nodes (sh := sh) hk32
    have hpn := (zp_node (sh := sh) hk32).2.1
    have fin : ∀ y : Int, y = zr_rl (zt_at (V (sh + 1)) (κ : Int)) f L i → Q (some (zg_i y)) zk_K 242 (zk_P sh) V := fun y hy => by
      subst hQ
      exact ⟨by rw [hy], rfl, rfl, rfl, rfl⟩
    have stand : ∀ j : Nat, i = (j : Int) + 1 → j < L.length → zg_G Γ (fun _ => True) zm_Tree_rule (zg_rm 1 0 0) (zg_Ω Γ (Q) 0 0) 0 0 38 [some (zg_r Γ (0)), some (zg_i (κ)), some (zg_i (i)), some (zg_r Γ (40 + 5 * κ))] [] zk_K 242 (zk_P sh) (V) := by
      intro j hij hj
      have he : L[j]? = some (L[j]'hj) := List.getElem?_eq_getElem hj
      obtain ⟨s1, s2, s3, s4, s5, s6, s7⟩ := n8 j _ he
      have hq : zk_P sh (42 + 5 * κ) j = some (40 + 5 * κ + 3 + j) := by
        have hz := zp_node (sh := sh) hk32
        have : j = 0 ∨ j = 1 := by omega
        rcases this with q | q
        · subst q; rw [hz.2.2.1]; congr 1; omega
        · subst q; rw [hz.2.2.2]; congr 1; omega
      have hkq : zk_K (40 + 5 * κ + 3 + j) = (0, 5) := by
        have : j = 0 ∨ j = 1 := by omega
        rcases this with q | q
        · subst q; rw [show 40 + 5 * κ + 3 + 0 = 43 + 5 * κ by omega]; exact hkn.2.2.2.1
        · subst q; rw [show 40 + 5 * κ + 3 + 1 = 44 + 5 * κ by omega]; exact hkn.2.2.2.2
      have ans : V (40 + 5 * κ + 3 + j) 0 + 4 * V (40 + 5 * κ + 3 + j) 2 + 8 * V (40 + 5 * κ + 3 + j) 3 = zr_rl (zt_at (V (sh + 1)) (κ : Int)) f L i := by
        unfold zr_rl
        rw [if_pos ⟨hkv, by omega, by omega⟩, if_neg (by omega), show i.toNat - 1 = j by omega, he, s1, s5, s6]
      refine zg_al3 zd_Tree_rule_38 ?_
      refine zg_getr zd_Tree_rule_39 zf_140 (by omega) (by first | assumption | rfl) rfl (by first | assumption | rfl) ?_
      refine zg_il2 zd_Tree_rule_42 ?_
      refine zg_iconst zd_Tree_rule_43 ?_
      refine zg_isub zd_Tree_rule_44 ?_
      refine zg_aald (j := j) zd_Tree_rule_45 (by omega) hkn3 rfl rfl (by omega) (by omega) (by decide) hq ?_
      refine zg_cVp0 zd_Tree_rule_46 zM_StandIn_code zw_540 zi_StandIn_code zs_StandIn_code (ct_scode (by omega) hkq (by rw [s5]; exact zg_b01 _)) (by decide) (by decide) (by omega) (by first | assumption | rfl) (by decide) rfl (Nat.le_of_ble_eq_true rfl) ?_
      refine zg_goto (tgt := 53) zd_Tree_rule_49 (by decide) ?_
      refine zg_ireturn zd_Tree_rule_53 rfl ?_
      exact fin _ ans
    refine zg_al0 zd_Tree_rule_14 ?_
    refine zg_getr zd_Tree_rule_15 zf_295 (by omega) (by first | assumption | rfl) rfl (by first | assumption | rfl) ?_
    refine zg_il1 zd_Tree_rule_18 ?_
    refine zg_aald (j := κ) zd_Tree_rule_19 (by omega) rfl rfl rfl rfl (by omega) (by decide) hnode ?_
    refine zg_as3 zd_Tree_rule_20 (fun w h => by cases h <;> rfl) (by decide) ?_
    refine zg_il2 zd_Tree_rule_21 ?_
    refine zg_if_ne (tgt := 30) zd_Tree_rule_22 (by decide) (by omega) (fun b22 => ?_) (fun b22 => ?_)
    · refine zg_al3 zd_Tree_rule_30 ?_
      refine zg_il2 zd_Tree_rule_31 ?_
      refine zg_cVp1 zd_Tree_rule_32 zM_Node_hasStandIn zw_536 zi_Node_hasStandIn zs_Node_hasStandIn (ct_hasS hk32 hi n5 n6) (by decide) (by decide) (by omega) (by first | assumption | rfl) (by decide) rfl (Nat.le_of_ble_eq_true rfl) ?_
      refine zg_if_eqB (tgt := 52) zd_Tree_rule_35 (by decide) (fun b35 => ?_) (fun b35 => ?_)
      · refine zg_iconst zd_Tree_rule_52 ?_
        refine zg_ireturn zd_Tree_rule_53 rfl ?_
        refine fin _ ?_
        unfold zr_rl
        have hno := of_decide_eq_false b35
        by_cases q : 0 ≤ i ∧ i ≤ 2
        · rw [if_pos ⟨hkv, q⟩, if_neg (by omega), List.getElem?_eq_none (by omega)]
        · rw [if_neg (fun z => q z.2)]
      · have hyes := of_decide_eq_true b35
        exact stand (i.toNat - 1) (by omega) (by omega)
    · refine zg_al3 zd_Tree_rule_25 ?_
      refine zg_geti zd_Tree_rule_26 zf_129 (by omega) (by first | assumption | rfl) rfl ?_
      rw [n1]
      refine zg_ireturn zd_Tree_rule_29 rfl ?_
      refine fin _ ?_
      unfold zr_rl
      rw [if_pos ⟨hkv, by omega, by omega⟩, if_pos (by omega)]
  refine zg_al0 zd_Tree_rule_0 ?_
  refine zg_getr zd_Tree_rule_1 zf_302 (by omega) (by first | assumption | rfl) rfl (by first | assumption | rfl) ?_
  refine zg_il1 zd_Tree_rule_4 ?_
  refine zg_cVp1 zd_Tree_rule_5 zM_Shape_at zw_528 zi_Shape_at zs_Shape_at (ct_hat hsh hk) (by decide) (by decide) (by omega) (by first | assumption | rfl) (by decide) rfl (Nat.le_of_ble_eq_true rfl) ?_
  refine zg_iconst zd_Tree_rule_8 ?_
  refine zg_icmp_eq (tgt := 14) zd_Tree_rule_9 (by decide) (by omega) (by omega) (fun b9 => ?_) (fun b9 => ?_)
  · exact body (by omega)
  · refine zg_iconst zd_Tree_rule_12 ?_
    refine zg_ireturn zd_Tree_rule_13 rfl ?_
    subst hQ
    exact ⟨by unfold zr_rl; rw [if_neg (fun z => by have := z.1; omega)], rfl, rfl, rfl, rfl⟩
theorem ct_threshold (hsh : zk_sh sh) (hkd : zt_kd (V (sh + 1))) {k i l : Int} {f : Nat} {L : List zw_E} {lean : Bool} (hk : -2147483648 ≤ k ∧ k < 2147483648) (hi : -2147483648 ≤ i ∧ i < 2147483648) (hN : zt_at (V (sh + 1)) k = 2 → zt_nd V (40 + 5 * k.toNat) f l L lean) : zg_S Γ zm_Tree_threshold 1 0 0 [zg_r Γ 0, zg_i k, zg_i i] zk_K 242 (zk_P sh) V (zq_p zk_K 242 (zk_P sh) V (some (zg_i (zr_tl (zt_at (V (sh + 1)) k) l L i)))) := by
  obtain ⟨h1, h2, h3, h4⟩ := zk_shf hsh
  have hb := zt_at_b hkd k
  generalize hQ : zq_p zk_K 242 (zk_P sh) V (some (zg_i (zr_tl (zt_at (V (sh + 1)) k) l L i))) = Q
  refine zg_enter 1 (by decide) (Nat.le_of_ble_eq_true rfl) rfl ?_
  have body : zt_at (V (sh + 1)) k = 2 → zg_G Γ (fun _ => True) zm_Tree_threshold (zg_rm 1 0 0) (zg_Ω Γ (Q) 0 0) 0 0 14 [some (zg_r Γ (0)), some (zg_i (k)), some (zg_i (i)), none] [] zk_K 242 (zk_P sh) (V) := by
    intro hkv
    have hr := hb.2 (by omega)
    have hN := hN hkv
    obtain ⟨κ, hκ⟩ : ∃ κ : Nat, k = (κ : Int) := ⟨k.toNat, by omega⟩
    subst hκ
    rw [show ((κ : Int)).toNat = κ by omega] at hN
    have hk32 : κ < 32 := by omega
    obtain ⟨n1, n2, n3, n4, n5, n6, n7, n8⟩ := hN
    have hkn := zk_node κ hk32
    have hkn1 := hkn.1
    have hkn3 := hkn.2.2.1
    have hnode := zp_nodes (sh := sh) hk32
    have hpn := (zp_node (sh := sh) hk32).2.1
    have fin : ∀ y : Int, y = zr_tl (zt_at (V (sh + 1)) (κ : Int)) l L i → Q (some (zg_i y)) zk_K 242 (zk_P sh) V := fun y hy => by
      subst hQ
      exact ⟨by rw [hy], rfl, rfl, rfl, rfl⟩
    have stand : ∀ j : Nat, i = (j : Int) + 1 → j < L.length → zg_G Γ (fun _ => True) zm_Tree_threshold (zg_rm 1 0 0) (zg_Ω Γ (Q) 0 0) 0 0 38 [some (zg_r Γ (0)), some (zg_i (κ)), some (zg_i (i)), some (zg_r Γ (40 + 5 * κ))] [] zk_K 242 (zk_P sh) (V) := by
      intro j hij hj
      have he : L[j]? = some (L[j]'hj) := List.getElem?_eq_getElem hj
      obtain ⟨s1, s2, s3, s4, s5, s6, s7⟩ := n8 j _ he
      have hq : zk_P sh (42 + 5 * κ) j = some (40 + 5 * κ + 3 + j) := by
        have hz := zp_node (sh := sh) hk32
        have : j = 0 ∨ j = 1 := by omega
        rcases this with q | q
        · subst q; rw [hz.2.2.1]; congr 1; omega
        · subst q; rw [hz.2.2.2]; congr 1; omega
      have hkq : zk_K (40 + 5 * κ + 3 + j) = (0, 5) := by
        have : j = 0 ∨ j = 1 := by omega
        rcases this with q | q
        · subst q; rw [show 40 + 5 * κ + 3 + 0 = 43 + 5 * κ by omega]; exact hkn.2.2.2.1
        · subst q; rw [show 40 + 5 * κ + 3 + 1 = 44 + 5 * κ by omega]; exact hkn.2.2.2.2
      have ans : V (40 + 5 * κ + 3 + j) 1 = zr_tl (zt_at (V (sh + 1)) (κ : Int)) l L i := by
        unfold zr_tl
        rw [if_pos ⟨hkv, by omega, by omega⟩, if_neg (by omega), show i.toNat - 1 = j by omega, he, s3]
      refine zg_al3 zd_Tree_threshold_38 ?_
      refine zg_getr zd_Tree_threshold_39 zf_140 (by omega) (by first | assumption | rfl) rfl (by first | assumption | rfl) ?_
      refine zg_il2 zd_Tree_threshold_42 ?_
      refine zg_iconst zd_Tree_threshold_43 ?_
      refine zg_isub zd_Tree_threshold_44 ?_
      refine zg_aald (j := j) zd_Tree_threshold_45 (by omega) hkn3 rfl rfl (by omega) (by omega) (by decide) hq ?_
      refine zg_geti zd_Tree_threshold_46 zf_102 (by omega) (by first | assumption | rfl) rfl ?_
      refine zg_goto (tgt := 53) zd_Tree_threshold_49 (by decide) ?_
      refine zg_ireturn zd_Tree_threshold_53 rfl ?_
      exact fin _ ans
    refine zg_al0 zd_Tree_threshold_14 ?_
    refine zg_getr zd_Tree_threshold_15 zf_295 (by omega) (by first | assumption | rfl) rfl (by first | assumption | rfl) ?_
    refine zg_il1 zd_Tree_threshold_18 ?_
    refine zg_aald (j := κ) zd_Tree_threshold_19 (by omega) rfl rfl rfl rfl (by omega) (by decide) hnode ?_
    refine zg_as3 zd_Tree_threshold_20 (fun w h => by cases h <;> rfl) (by decide) ?_
    refine zg_il2 zd_Tree_threshold_21 ?_
    refine zg_if_ne (tgt := 30) zd_Tree_threshold_22 (by decide) (by omega) (fun b22 => ?_) (fun b22 => ?_)
    · refine zg_al3 zd_Tree_threshold_30 ?_
      refine zg_il2 zd_Tree_threshold_31 ?_
      refine zg_cVp1 zd_Tree_threshold_32 zM_Node_hasStandIn zw_536 zi_Node_hasStandIn zs_Node_hasStandIn (ct_hasS hk32 hi n5 n6) (by decide) (by decide) (by omega) (by first | assumption | rfl) (by decide) rfl (Nat.le_of_ble_eq_true rfl) ?_
      refine zg_if_eqB (tgt := 52) zd_Tree_threshold_35 (by decide) (fun b35 => ?_) (fun b35 => ?_)
      · refine zg_iconst zd_Tree_threshold_52 ?_
        refine zg_ireturn zd_Tree_threshold_53 rfl ?_
        refine fin _ ?_
        unfold zr_tl
        have hno := of_decide_eq_false b35
        by_cases q : 0 ≤ i ∧ i ≤ 2
        · rw [if_pos ⟨hkv, q⟩, if_neg (by omega), List.getElem?_eq_none (by omega)]
        · rw [if_neg (fun z => q z.2)]
      · have hyes := of_decide_eq_true b35
        exact stand (i.toNat - 1) (by omega) (by omega)
    · refine zg_al3 zd_Tree_threshold_25 ?_
      refine zg_geti zd_Tree_threshold_26 zf_133 (by omega) (by first | assumption | rfl) rfl ?_
      rw [n3]
      refine zg_ireturn zd_Tree_threshold_29 rfl ?_
      refine fin _ ?_
      unfold zr_tl
      rw [if_pos ⟨hkv, by omega, by omega⟩, if_pos (by omega)]
  refine zg_al0 zd_Tree_threshold_0 ?_
  refine zg_getr zd_Tree_threshold_1 zf_302 (by omega) (by first | assumption | rfl) rfl (by first | assumption | rfl) ?_
  refine zg_il1 zd_Tree_threshold_4 ?_
  refine zg_cVp1 zd_Tree_threshold_5 zM_Shape_at zw_528 zi_Shape_at zs_Shape_at (ct_hat hsh hk) (by decide) (by decide) (by omega) (by first | assumption | rfl) (by decide) rfl (Nat.le_of_ble_eq_true rfl) ?_
  refine zg_iconst zd_Tree_threshold_8 ?_
  refine zg_icmp_eq (tgt := 14) zd_Tree_threshold_9 (by decide) (by omega) (by omega) (fun b9 => ?_) (fun b9 => ?_)
  · exact body (by omega)
  · refine zg_iconst zd_Tree_threshold_12 ?_
    refine zg_ireturn zd_Tree_threshold_13 rfl ?_
    subst hQ
    exact ⟨by unfold zr_tl; rw [if_neg (fun z => by have := z.1; omega)], rfl, rfl, rfl, rfl⟩
theorem ct_endOf (hsh : zk_sh sh) (hkd : zt_kd (V (sh + 1))) {q : Nat} {ft : Nat → Nat} {bo : Nat → Int} {Lf : Nat → List zw_E} {ln : Nat → Bool} (hq : q < 242) (hkq : zk_K q = (1, 3)) (hx : ∀ f, f < 3 → -2147483648 ≤ V q f ∧ V q f < 2147483648) (hN : ∀ k : Nat, k < 32 → zt_at (V (sh + 1)) (k : Int) = 2 → zt_nd V (40 + 5 * k) (ft k) (bo k) (Lf k) (ln k)) : zg_S Γ zm_Tree_endOf 2 0 0 [zg_r Γ 0, zg_r Γ q] zk_K 242 (zk_P sh) V (zq_p zk_K 242 (zk_P sh) V (some (zg_i (zr_rc (fun m => zt_at (V (sh + 1)) (m : Int)) (fun m => zw_go ((ft m, bo m, false, 0) :: Lf m) (V q) (ln m)) 4 1 : Nat)))) := by
  obtain ⟨h1, h2, h3, h4⟩ := zk_shf hsh
  generalize hR : zr_rc (fun m => zt_at (V (sh + 1)) (m : Int)) (fun m => zw_go ((ft m, bo m, false, 0) :: Lf m) (V q) (ln m)) 4 1 = R
  refine zg_enter 2 (by decide) (Nat.le_of_ble_eq_true rfl) rfl ?_
  have loop : ∀ (f k dp : Nat), dp + f = 4 → 1 ≤ k → (k + 1) * 2 ^ f ≤ 32 → zr_rc (fun m => zt_at (V (sh + 1)) (m : Int)) (fun m => zw_go ((ft m, bo m, false, 0) :: Lf m) (V q) (ln m)) f k = R → zg_G Γ (fun _ => True) zm_Tree_endOf (zg_rm 2 0 0) (zg_Ω Γ (zq_p zk_K 242 (zk_P sh) V (some (zg_i (R : Nat)))) 0 0) 0 0 4 [some (zg_r Γ (0)), some (zg_r Γ (q)), some (zg_i ((k : Nat))), some (zg_i ((dp : Nat)))] [] zk_K 242 (zk_P sh) (V) := by
    intro f
    induction f with
    | zero =>
      intro k dp hdf hk1 hk32 hrc
      have e : k = R := hrc
      subst e
      refine zg_il3 zd_Tree_endOf_4 ?_
      refine zg_iconst zd_Tree_endOf_5 ?_
      refine zg_icmp_ge (tgt := 52) zd_Tree_endOf_6 (by decide) (by omega) (by omega) (fun b6 => ?_) (fun b6 => ?_)
      · refine zg_il2 zd_Tree_endOf_52 ?_
        refine zg_ireturn zd_Tree_endOf_53 rfl ?_
        exact ⟨rfl, rfl, rfl, rfl, rfl⟩
      · omega
    | succ f ih =>
      intro k dp hdf hk1 hk32 hrc
      have hpw : 2 ^ (f + 1) = 2 * 2 ^ f := by rw [Nat.pow_succ]; omega
      have hp1 : 1 ≤ 2 ^ f := Nat.one_le_two_pow
      have hkk : (k + 1) * 2 ^ (f + 1) = (2 * k + 1 + 1) * 2 ^ f := by
        rw [hpw, ← Nat.mul_assoc]
        congr 1
        omega
      have hk2 : k < 32 := by
        have : k + 1 ≤ (k + 1) * 2 ^ (f + 1) := Nat.le_mul_of_pos_right _ (by omega)
        omega
      have hR1 : (2 * k + 1 + 1) * 2 ^ f ≤ 32 := by rw [← hkk]; exact hk32
      have hL1 : (2 * k + 1) * 2 ^ f ≤ 32 := Nat.le_trans (Nat.mul_le_mul_right _ (by omega)) hR1
      have hb := zt_at_b hkd (k : Int)
      have hkn1 := (zk_node k hk2).1
      have hnode := zp_nodes (sh := sh) hk2
      rw [zr_rc_s] at hrc
      have leave : ¬ zt_at (V (sh + 1)) (k : Int) = 2 → zg_G Γ (fun _ => True) zm_Tree_endOf (zg_rm 2 0 0) (zg_Ω Γ (zq_p zk_K 242 (zk_P sh) V (some (zg_i (R : Nat)))) 0 0) 0 0 52 [some (zg_r Γ (0)), some (zg_r Γ (q)), some (zg_i ((k : Nat))), some (zg_i ((dp : Nat)))] [] zk_K 242 (zk_P sh) (V) := by
        intro hne
        rw [if_neg hne] at hrc
        subst hrc
        refine zg_il2 zd_Tree_endOf_52 ?_
        refine zg_ireturn zd_Tree_endOf_53 rfl ?_
        exact ⟨rfl, rfl, rfl, rfl, rfl⟩
      have down : zt_at (V (sh + 1)) (k : Int) = 2 → zg_G Γ (fun _ => True) zm_Tree_endOf (zg_rm 2 0 0) (zg_Ω Γ (zq_p zk_K 242 (zk_P sh) V (some (zg_i (R : Nat)))) 0 0) 0 0 21 [some (zg_r Γ (0)), some (zg_r Γ (q)), some (zg_i ((k : Nat))), some (zg_i ((dp : Nat)))] [] zk_K 242 (zk_P sh) (V) := by
        intro hkv
        have hn := hN k hk2 hkv
        rw [if_pos hkv] at hrc
        have left : zw_go ((ft k, bo k, false, 0) :: Lf k) (V q) (ln k) = true → zg_G Γ (fun _ => True) zm_Tree_endOf (zg_rm 2 0 0) (zg_Ω Γ (zq_p zk_K 242 (zk_P sh) V (some (zg_i (R : Nat)))) 0 0) 0 0 45 [some (zg_r Γ (0)), some (zg_r Γ (q)), some (zg_i ((k : Nat))), some (zg_i ((dp : Nat)))] [(zg_i (2 * (k : Nat)))] zk_K 242 (zk_P sh) (V) := by
          intro hgo
          have go := ih (2 * k) (dp + 1) (by omega) (by omega) hL1 (by rw [← hrc, if_pos hgo]; rfl)
          rw [show 2 * ((k : Nat) : Int) = ((2 * k : Nat) : Int) by omega]
          refine zg_is2 zd_Tree_endOf_45 (fun w h => by cases h <;> rfl) (by decide) ?_
          refine zg_inc3 zd_Tree_endOf_46 (fun w h => by cases h <;> rfl) (by decide) ?_
          refine zg_goto (tgt := 4) zd_Tree_endOf_49 (by decide) ?_
          exact go
        have right : zw_go ((ft k, bo k, false, 0) :: Lf k) (V q) (ln k) = false → zg_G Γ (fun _ => True) zm_Tree_endOf (zg_rm 2 0 0) (zg_Ω Γ (zq_p zk_K 242 (zk_P sh) V (some (zg_i (R : Nat)))) 0 0) 0 0 45 [some (zg_r Γ (0)), some (zg_r Γ (q)), some (zg_i ((k : Nat))), some (zg_i ((dp : Nat)))] [(zg_i (2 * (k : Nat) + 1))] zk_K 242 (zk_P sh) (V) := by
          intro hgo
          have go := ih (2 * k + 1) (dp + 1) (by omega) (by omega) hR1 (by rw [← hrc, hgo]; rfl)
          rw [show 2 * ((k : Nat) : Int) + 1 = ((2 * k + 1 : Nat) : Int) by omega]
          refine zg_is2 zd_Tree_endOf_45 (fun w h => by cases h <;> rfl) (by decide) ?_
          refine zg_inc3 zd_Tree_endOf_46 (fun w h => by cases h <;> rfl) (by decide) ?_
          refine zg_goto (tgt := 4) zd_Tree_endOf_49 (by decide) ?_
          exact go
        refine zg_al0 zd_Tree_endOf_21 ?_
        refine zg_getr zd_Tree_endOf_22 zf_295 (by omega) (by first | assumption | rfl) rfl (by first | assumption | rfl) ?_
        refine zg_il2 zd_Tree_endOf_25 ?_
        refine zg_aald (j := k) zd_Tree_endOf_26 (by omega) rfl rfl rfl rfl (by omega) (by decide) hnode ?_
        refine zg_al1 zd_Tree_endOf_27 ?_
        refine zg_cVp1 zd_Tree_endOf_28 zM_Node_sendsLeft zw_573 zi_Node_sendsLeft zs_Node_sendsLeft (ct_send hk2 hq hkq hx hn) (by decide) (by decide) (by omega) (by first | assumption | rfl) (by decide) rfl (Nat.le_of_ble_eq_true rfl) ?_
        refine zg_if_eqB (tgt := 40) zd_Tree_endOf_31 (by decide) (fun b31 => ?_) (fun b31 => ?_)
        · refine zg_iconst zd_Tree_endOf_40 ?_
          refine zg_il2 zd_Tree_endOf_41 ?_
          refine zg_imul zd_Tree_endOf_42 ?_
          refine zg_iconst zd_Tree_endOf_43 ?_
          refine zg_iadd zd_Tree_endOf_44 ?_
          first
          | exact left b31
          | exact right b31
        · refine zg_iconst zd_Tree_endOf_34 ?_
          refine zg_il2 zd_Tree_endOf_35 ?_
          refine zg_imul zd_Tree_endOf_36 ?_
          refine zg_goto (tgt := 45) zd_Tree_endOf_37 (by decide) ?_
          first
          | exact left b31
          | exact right b31
      refine zg_il3 zd_Tree_endOf_4 ?_
      refine zg_iconst zd_Tree_endOf_5 ?_
      refine zg_icmp_ge (tgt := 52) zd_Tree_endOf_6 (by decide) (by omega) (by omega) (fun b6 => ?_) (fun b6 => ?_)
      · first
        | (exfalso; omega)
        | exact leave b18
      · refine zg_al0 zd_Tree_endOf_9 ?_
        refine zg_getr zd_Tree_endOf_10 zf_302 (by omega) (by first | assumption | rfl) rfl (by first | assumption | rfl) ?_
        refine zg_il2 zd_Tree_endOf_13 ?_
        refine zg_cVp1 zd_Tree_endOf_14 zM_Shape_at zw_528 zi_Shape_at zs_Shape_at (ct_hat hsh (by omega)) (by decide) (by decide) (by omega) (by first | assumption | rfl) (by decide) rfl (Nat.le_of_ble_eq_true rfl) ?_
        refine zg_iconst zd_Tree_endOf_17 ?_
        refine zg_icmp_ne (tgt := 52) zd_Tree_endOf_18 (by decide) (by omega) (by omega) (fun b18 => ?_) (fun b18 => ?_)
        · first
          | (exfalso; omega)
          | exact leave b18
        · exact down (by omega)
  refine zg_iconst zd_Tree_endOf_0 ?_
  refine zg_is2 zd_Tree_endOf_1 (fun w h => by cases h <;> rfl) (by decide) ?_
  refine zg_iconst zd_Tree_endOf_2 ?_
  refine zg_is3 zd_Tree_endOf_3 (fun w h => by cases h <;> rfl) (by decide) ?_
  exact loop 4 1 0 (by omega) (by omega) (by decide) hR
/-- the class's cells behind reach -/
def zt_as (V : zg_V) (a b c : Int) : zg_V := zg_u (zg_u (zg_u V 222 0 a) 222 1 b) 222 2 c
theorem zt_as_o (V : zg_V) (a b c : Int) {x : Nat} (h : x ≠ 222) : zt_as V a b c x = V x := by unfold zt_as; rw [zg_u_out _ _ _ _ h, zg_u_out _ _ _ _ h, zg_u_out _ _ _ _ h]
theorem zt_as_x (V : zg_V) (a b c : Int) : ∀ f, f < 3 → zt_as V a b c 222 f = zr_x a b c f := by
  intro f hf
  unfold zt_as zr_x
  match f, hf with
  | 0, _ => rw [zg_u_off _ _ _ _ (by decide), zg_u_off _ _ _ _ (by decide), zg_u_in]; rfl
  | 1, _ => rw [zg_u_off _ _ _ _ (by decide), zg_u_in]; rfl
  | 2, _ => rw [zg_u_in]; rfl
theorem ct_reach (hsh : zk_sh sh) (hkd : zt_kd (V (sh + 1))) {a b c : Int} {ft : Nat → Nat} {bo : Nat → Int} {Lf : Nat → List zw_E} {ln : Nat → Bool} (ha : -2147483648 ≤ a ∧ a < 2147483648) (hb : -2147483648 ≤ b ∧ b < 2147483648) (hc : -2147483648 ≤ c ∧ c < 2147483648) (hN : ∀ k : Nat, k < 32 → zt_at (V (sh + 1)) (k : Int) = 2 → zt_nd V (40 + 5 * k) (ft k) (bo k) (Lf k) (ln k)) : zg_S Γ zm_Tree_reach 3 0 0 [zg_r Γ 0, zg_i a, zg_i b, zg_i c] zk_K 242 (zk_P sh) V (zq_p zk_K 242 (zk_P sh) (zt_as V a b c) (some (zg_i (zr_rc (fun m => zt_at (V (sh + 1)) (m : Int)) (fun m => zw_go ((ft m, bo m, false, 0) :: Lf m) (zt_as V a b c 222) (ln m)) 4 1 : Nat)))) := by
  have hs : zt_as V a b c (sh + 1) = V (sh + 1) := zt_as_o V a b c (by rcases hsh with q | q | q <;> omega)
  have ho : ∀ k, k < 32 → ∀ x, 40 + 5 * k ≤ x → x ≤ 44 + 5 * k → zt_as V a b c x = V x := fun k hk x h1 h2 => zt_as_o V a b c (by omega)
  have hkd' : zt_kd (zt_as V a b c (sh + 1)) := by rw [hs]; exact hkd
  have hN' : ∀ k : Nat, k < 32 → zt_at (zt_as V a b c (sh + 1)) (k : Int) = 2 → zt_nd (zt_as V a b c) (40 + 5 * k) (ft k) (bo k) (Lf k) (ln k) := fun k hk q => by
    rw [hs] at q
    exact zt_nd_fr (ho k hk) (hN k hk q)
  have hx' : ∀ f, f < 3 → -2147483648 ≤ zt_as V a b c 222 f ∧ zt_as V a b c 222 f < 2147483648 := fun f hf => by
    rw [zt_as_x V a b c f hf]
    unfold zr_x
    split
    · exact ha
    · split
      · exact hb
      · exact hc
  have main := ct_endOf (Γ := Γ) (sh := sh) hsh hkd' (q := 222) (by decide) rfl hx' hN'
  rw [hs] at main
  refine zg_enter 0 (by decide) (Nat.le_of_ble_eq_true rfl) rfl ?_
  refine zg_al0 zd_Tree_reach_0 ?_
  refine zg_getr zd_Tree_reach_1 zf_301 (by omega) (by first | assumption | rfl) rfl (by first | assumption | rfl) ?_
  refine zg_iconst zd_Tree_reach_4 ?_
  refine zg_il1 zd_Tree_reach_5 ?_
  refine zg_iast (j := 0) zd_Tree_reach_6 (by omega) rfl rfl (by decide) (by decide) ?_
  refine zg_al0 zd_Tree_reach_7 ?_
  refine zg_getr zd_Tree_reach_8 zf_301 (by omega) (by first | assumption | rfl) rfl (by first | assumption | rfl) ?_
  refine zg_iconst zd_Tree_reach_11 ?_
  refine zg_il2 zd_Tree_reach_12 ?_
  refine zg_iast (j := 1) zd_Tree_reach_13 (by omega) rfl rfl (by decide) (by decide) ?_
  refine zg_al0 zd_Tree_reach_14 ?_
  refine zg_getr zd_Tree_reach_15 zf_301 (by omega) (by first | assumption | rfl) rfl (by first | assumption | rfl) ?_
  refine zg_iconst zd_Tree_reach_18 ?_
  refine zg_il3 zd_Tree_reach_19 ?_
  refine zg_iast (j := 2) zd_Tree_reach_20 (by omega) rfl rfl (by decide) (by decide) ?_
  refine zg_al0 zd_Tree_reach_21 ?_
  refine zg_al0 zd_Tree_reach_22 ?_
  refine zg_getr zd_Tree_reach_23 zf_301 (by omega) (by first | assumption | rfl) rfl (by first | assumption | rfl) ?_
  refine zg_cVp1 zd_Tree_reach_26 zM_Tree_endOf zw_569 zi_Tree_endOf zs_Tree_endOf (main) (by decide) (by decide) (by omega) (by first | assumption | rfl) (by decide) rfl (Nat.le_of_ble_eq_true rfl) ?_
  refine zg_ireturn zd_Tree_reach_29 rfl ?_
  exact ⟨rfl, rfl, rfl, rfl, rfl⟩
end ZT46

