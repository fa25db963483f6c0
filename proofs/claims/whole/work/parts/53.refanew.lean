/-! the reference: anew, even, begin, weight, addRow -/
def zr_an (V V' : zg_V) (n : Nat) : Prop := zv_on (fun b => b = 223 ∨ b = 228 ∨ b = 229) V V' ∧ (∀ j, j ≠ 12 → V' 223 j = V 223 j) ∧ V' 223 12 = 0 ∧ (∀ k, k < 32 → V' 228 k = if k = 1 then 1 else 0) ∧ (∀ k, k < 32 → V' 229 k = if k = 1 then ((zs_mk (fun r => decide (0 < V 226 r)) n : Nat) : Int) else 0)
section ZT36
variable {Γ : zg_C} {V : zg_V} {sh : Nat}
theorem cr_anew {n : Nat} (hn : V 223 0 = (n : Int)) (hn16 : n ≤ 16) (hw : ∀ r, r < 16 → 0 ≤ V 226 r ∧ V 226 r ≤ 16) : zg_S Γ zm_Ref_anew 0 0 0 [zg_r Γ 223] zk_K 242 (zk_P sh) V (zq_r zk_K 242 (zk_P sh) (fun rr V' => rr = none ∧ zr_an V V' n)) := by
  generalize hQ : zq_r zk_K 242 (zk_P sh) (fun rr V' => rr = none ∧ zr_an V V' n) = Q
  refine zg_enter 1 (by decide) (Nat.le_of_ble_eq_true rfl) rfl ?_
  have second : ∀ (j m : Nat) (U : zg_V) (hij : m + j = n) (hU : zv_on (fun b => b = 228 ∨ b = 229) V U) (h8 : ∀ k, k < 32 → U 228 k = if k = 1 then 1 else 0) (h9 : ∀ k, k < 32 → k ≠ 1 → U 229 k = 0) (h91 : U 229 1 = ((zs_mk (fun r => decide (0 < V 226 r)) m : Nat) : Int)), zg_G Γ (fun _ => True) zm_Ref_anew (zg_rm 0 0 0) (zg_Ω Γ (Q) 0 0) 0 0 37 [some (zg_r Γ (223)), some (zg_i ((m : Nat)))] [] zk_K 242 (zk_P sh) (U) := by
    intro j
    induction j with
    | zero =>
      intro m U hij hU h8 h9 h91
      have e : m = n := by omega
      subst e
      have hUn : U 223 0 = (m : Int) := by rw [hU 223 (by decide)]; exact hn
      refine zg_il1 zd_Ref_anew_37 ?_
      refine zg_al0 zd_Ref_anew_38 ?_
      refine zg_geti zd_Ref_anew_39 zf_641 (by omega) (by first | assumption | rfl) rfl ?_
      rw [hUn]
      refine zg_icmp_ge (tgt := 85) zd_Ref_anew_42 (by decide) (by omega) (by omega) (fun b42 => ?_) (fun b42 => ?_)
      · refine zg_al0 zd_Ref_anew_85 ?_
        refine zg_iconst zd_Ref_anew_86 ?_
        refine zg_putz zd_Ref_anew_87 zf_653 rfl (by omega) (by first | assumption | rfl) rfl (by omega) ?_
        refine zg_return zd_Ref_anew_90 rfl ?_
        subst hQ
        refine ⟨rfl, rfl, rfl, rfl, fun b hb => ?_, fun j hj => ?_, zg_u_in _ _ _ _, fun k hk => ?_, fun k hk => ?_⟩
        · rw [zg_u_out _ _ _ _ (by omega)]; exact hU b (by omega)
        · rw [zg_u_off _ _ _ _ hj, hU 223 (by decide)]
        · rw [zg_u_out _ _ _ _ (by decide)]; exact h8 k hk
        · rw [zg_u_out _ _ _ _ (by decide)]
          by_cases e : k = 1
          · rw [if_pos e, e]; exact h91
          · rw [if_neg e]; exact h9 k hk e
      · omega
    | succ j ih =>
      intro m U hij hU h8 h9 h91
      have hUn : U 223 0 = (n : Int) := by rw [hU 223 (by decide)]; exact hn
      have h6 : U 226 = V 226 := hU 226 (by decide)
      have hwm := hw m (by omega)
      have fin : ∀ x : Nat, x = zs_mk (fun r => decide (0 < V 226 r)) (m + 1) → zg_G Γ (fun _ => True) zm_Ref_anew (zg_rm 0 0 0) (zg_Ω Γ (Q) 0 0) 0 0 37 [some (zg_r Γ (223)), some (zg_i (((m : Nat) : Int) + 1))] [] zk_K 242 (zk_P sh) (zg_u U 229 1 (x : Int)) := fun x hx => ih (m + 1) _ (by omega) (fun b hb => by rw [zg_u_out _ _ _ _ (by omega)]; exact hU b hb) (fun k hk => by rw [zg_u_out _ _ _ _ (by decide)]; exact h8 k hk) (fun k hk h1 => by rw [zg_u_off _ _ _ _ h1]; exact h9 k hk h1) (by rw [zg_u_in, hx])
      refine zg_il1 zd_Ref_anew_37 ?_
      refine zg_al0 zd_Ref_anew_38 ?_
      refine zg_geti zd_Ref_anew_39 zf_641 (by omega) (by first | assumption | rfl) rfl ?_
      rw [hUn]
      refine zg_icmp_ge (tgt := 85) zd_Ref_anew_42 (by decide) (by omega) (by omega) (fun b42 => ?_) (fun b42 => ?_)
      · omega
      · refine zg_al0 zd_Ref_anew_45 ?_
        refine zg_getr zd_Ref_anew_46 zf_650 (by omega) (by first | assumption | rfl) rfl (by first | assumption | rfl) ?_
        refine zg_iconst zd_Ref_anew_49 ?_
        refine zg_al0 zd_Ref_anew_50 ?_
        refine zg_getr zd_Ref_anew_51 zf_644 (by omega) (by first | assumption | rfl) rfl (by first | assumption | rfl) ?_
        refine zg_il1 zd_Ref_anew_54 ?_
        refine zg_iald zd_Ref_anew_55 (by omega) (by first | assumption | rfl) rfl (by omega) (by decide) ?_
        rw [h6]
        refine zg_if_le (tgt := 72) zd_Ref_anew_56 (by decide) (by omega) (fun b56 => ?_) (fun b56 => ?_)
        · refine zg_al0 zd_Ref_anew_72 ?_
          refine zg_getr zd_Ref_anew_73 zf_650 (by omega) (by first | assumption | rfl) rfl (by first | assumption | rfl) ?_
          refine zg_iconst zd_Ref_anew_76 ?_
          refine zg_iald (j := 1) zd_Ref_anew_77 (by omega) rfl rfl (by decide) (by decide) ?_
          first
          | rw [h91]
          | skip
          refine zg_iast (j := 1) zd_Ref_anew_78 (by omega) rfl rfl (by decide) (by decide) ?_
          refine zg_inc1 zd_Ref_anew_79 (fun w h => by cases h <;> rfl) (by decide) ?_
          refine zg_goto (tgt := 37) zd_Ref_anew_82 (by decide) ?_
          first
          | exact fin _ (by rw [zs_mk_s, if_pos (decide_eq_true (show 0 < V 226 m by omega))])
          | exact fin _ (by rw [zs_mk_s, if_neg (fun h => by have := of_decide_eq_true h; omega)])
        · refine zg_al0 zd_Ref_anew_59 ?_
          refine zg_getr zd_Ref_anew_60 zf_650 (by omega) (by first | assumption | rfl) rfl (by first | assumption | rfl) ?_
          refine zg_iconst zd_Ref_anew_63 ?_
          refine zg_iald (j := 1) zd_Ref_anew_64 (by omega) rfl rfl (by decide) (by decide) ?_
          rw [h91]
          refine zg_iconst zd_Ref_anew_65 ?_
          refine zg_il1 zd_Ref_anew_66 ?_
          refine zg_ishl ((2 ^ m : Nat) : Int) zd_Ref_anew_67 (zb_shl m (by omega)) ?_
          refine zg_ior ((zs_mk (fun r => decide (0 < V 226 r)) m ||| 2 ^ m : Nat) : Int) zd_Ref_anew_68 (zb_or _ _) ?_
          refine zg_goto (tgt := 78) zd_Ref_anew_69 (by decide) ?_
          first
          | rw [h91]
          | skip
          refine zg_iast (j := 1) zd_Ref_anew_78 (by omega) rfl rfl (by decide) (by decide) ?_
          refine zg_inc1 zd_Ref_anew_79 (fun w h => by cases h <;> rfl) (by decide) ?_
          refine zg_goto (tgt := 37) zd_Ref_anew_82 (by decide) ?_
          first
          | exact fin _ (by rw [zs_mk_s, if_pos (decide_eq_true (show 0 < V 226 m by omega))])
          | exact fin _ (by rw [zs_mk_s, if_neg (fun h => by have := of_decide_eq_true h; omega)])
  have first : ∀ (j i : Nat) (U : zg_V) (hij : i + j = 32) (hU : zv_on (fun b => b = 228 ∨ b = 229) V U) (h8 : ∀ k, k < i → U 228 k = 0 ∧ U 229 k = 0), zg_G Γ (fun _ => True) zm_Ref_anew (zg_rm 0 0 0) (zg_Ω Γ (Q) 0 0) 0 0 2 [some (zg_r Γ (223)), some (zg_i ((i : Nat)))] [] zk_K 242 (zk_P sh) (U) := by
    intro j
    induction j with
    | zero =>
      intro i U hij hU h8
      have e : i = 32 := by omega
      subst e
      have w := second n 0 (zg_u U 228 1 1) (by omega) (fun b hb => by rw [zg_u_out _ _ _ _ (by omega)]; exact hU b hb) (fun k hk => by
        by_cases e : k = 1
        · rw [e, zg_u_in, if_pos rfl]
        · rw [zg_u_off _ _ _ _ e, if_neg e]; exact (h8 k hk).1) (fun k hk _ => by rw [zg_u_out _ _ _ _ (by decide)]; exact (h8 k hk).2) (by rw [zg_u_out _ _ _ _ (by decide)]; exact (h8 1 (by decide)).2)
      refine zg_il1 zd_Ref_anew_2 ?_
      refine zg_bipush zd_Ref_anew_3 (by decide) ?_
      refine zg_icmp_ge (tgt := 28) zd_Ref_anew_5 (by decide) (by omega) (by omega) (fun b5 => ?_) (fun b5 => ?_)
      · refine zg_al0 zd_Ref_anew_28 ?_
        refine zg_getr zd_Ref_anew_29 zf_649 (by omega) (by first | assumption | rfl) rfl (by first | assumption | rfl) ?_
        refine zg_iconst zd_Ref_anew_32 ?_
        refine zg_iconst zd_Ref_anew_33 ?_
        refine zg_iast (j := 1) zd_Ref_anew_34 (by omega) rfl rfl (by decide) (by decide) ?_
        refine zg_iconst zd_Ref_anew_35 ?_
        refine zg_is1 zd_Ref_anew_36 (fun w h => by cases h <;> rfl) (by decide) ?_
        exact w
      · omega
    | succ j ih =>
      intro i U hij hU h8
      have w := ih (i + 1) (zg_u (zg_u U 228 i 0) 229 i 0) (by omega) (fun b hb => by rw [zg_u_out _ _ _ _ (by omega), zg_u_out _ _ _ _ (by omega)]; exact hU b hb) (fun k hk => by
        by_cases e : k = i
        · rw [e, zg_u_out _ _ _ _ (by decide), zg_u_in, zg_u_in]; exact ⟨rfl, rfl⟩
        · rw [zg_u_out _ _ _ _ (by decide), zg_u_off _ _ _ _ e, zg_u_off _ _ _ _ e, zg_u_out _ _ _ _ (by decide)]; exact h8 k (by omega))
      refine zg_il1 zd_Ref_anew_2 ?_
      refine zg_bipush zd_Ref_anew_3 (by decide) ?_
      refine zg_icmp_ge (tgt := 28) zd_Ref_anew_5 (by decide) (by omega) (by omega) (fun b5 => ?_) (fun b5 => ?_)
      · omega
      · refine zg_al0 zd_Ref_anew_8 ?_
        refine zg_getr zd_Ref_anew_9 zf_649 (by omega) (by first | assumption | rfl) rfl (by first | assumption | rfl) ?_
        refine zg_il1 zd_Ref_anew_12 ?_
        refine zg_iconst zd_Ref_anew_13 ?_
        refine zg_iast zd_Ref_anew_14 (by omega) (by first | assumption | rfl) rfl (by omega) (by decide) ?_
        refine zg_al0 zd_Ref_anew_15 ?_
        refine zg_getr zd_Ref_anew_16 zf_650 (by omega) (by first | assumption | rfl) rfl (by first | assumption | rfl) ?_
        refine zg_il1 zd_Ref_anew_19 ?_
        refine zg_iconst zd_Ref_anew_20 ?_
        refine zg_iast zd_Ref_anew_21 (by omega) (by first | assumption | rfl) rfl (by omega) (by decide) ?_
        refine zg_inc1 zd_Ref_anew_22 (fun w h => by cases h <;> rfl) (by decide) ?_
        refine zg_goto (tgt := 2) zd_Ref_anew_25 (by decide) ?_
        exact w
  refine zg_iconst zd_Ref_anew_0 ?_
  refine zg_is1 zd_Ref_anew_1 (fun w h => by cases h <;> rfl) (by decide) ?_
  exact first 32 0 V (by omega) (fun b _ => rfl) (fun k hk => by omega)
/-- all weights 1, then anew -/
def zr_ev (V V' : zg_V) (n : Nat) : Prop := ∃ V1 : zg_V, zv_on (fun b => b = 226) V V1 ∧ (∀ r, r < n → V1 226 r = 1) ∧ (∀ r, n ≤ r → V1 226 r = V 226 r) ∧ zr_an V1 V' n
theorem cr_even {n : Nat} (hn : V 223 0 = (n : Int)) (hn16 : n ≤ 16) (hw : ∀ r, r < 16 → 0 ≤ V 226 r ∧ V 226 r ≤ 16) : zg_S Γ zm_Ref_even 1 0 0 [zg_r Γ 223] zk_K 242 (zk_P sh) V (zq_r zk_K 242 (zk_P sh) (fun rr V' => rr = none ∧ zr_ev V V' n)) := by
  generalize hQ : zq_r zk_K 242 (zk_P sh) (fun rr V' => rr = none ∧ zr_ev V V' n) = Q
  refine zg_enter 1 (by decide) (Nat.le_of_ble_eq_true rfl) rfl ?_
  refine zg_iconst zd_Ref_even_0 ?_
  refine zg_is1 zd_Ref_even_1 (fun w h => by cases h <;> rfl) (by decide) ?_
  have key : ∀ (j i : Nat) (U : zg_V) (hij : i + j = n) (hU : zv_on (fun b => b = 226) V U) (h1 : ∀ r, r < i → U 226 r = 1) (h2 : ∀ r, i ≤ r → U 226 r = V 226 r), zg_G Γ (fun _ => True) zm_Ref_even (zg_rm 1 0 0) (zg_Ω Γ (Q) 0 0) 0 0 2 [some (zg_r Γ (223)), some (zg_i ((i : Nat)))] [] zk_K 242 (zk_P sh) (U) := by
    intro j
    induction j with
    | zero =>
      intro i U hij hU h1 h2
      have e : i = n := by omega
      subst e
      have hUn : U 223 0 = (i : Int) := by rw [hU 223 (by decide)]; exact hn
      have hUw : ∀ r, r < 16 → 0 ≤ U 226 r ∧ U 226 r ≤ 16 := fun r hr => by
        by_cases e : r < i
        · rw [h1 r e]; omega
        · rw [h2 r (by omega)]; exact hw r hr
      refine zg_il1 zd_Ref_even_2 ?_
      refine zg_al0 zd_Ref_even_3 ?_
      refine zg_geti zd_Ref_even_4 zf_641 (by omega) (by first | assumption | rfl) rfl ?_
      rw [hUn]
      refine zg_icmp_ge (tgt := 23) zd_Ref_even_7 (by decide) (by omega) (by omega) (fun b7 => ?_) (fun b7 => ?_)
      · refine zg_al0 zd_Ref_even_23 ?_
        refine zg_cVr0 zd_Ref_even_24 zM_Ref_anew zw_637 zi_Ref_anew zs_Ref_anew (cr_anew hUn hn16 hUw) (by decide) (by decide) (by omega) (by first | assumption | rfl) (by decide) rfl (Nat.le_of_ble_eq_true rfl) ?_
        intro r V2 hq
        obtain ⟨rfl, q⟩ := hq
        refine zg_return zd_Ref_even_27 rfl ?_
        subst hQ
        exact ⟨rfl, rfl, rfl, rfl, U, hU, h1, h2, q⟩
      · omega
    | succ j ih =>
      intro i U hij hU h1 h2
      have hUn : U 223 0 = (n : Int) := by rw [hU 223 (by decide)]; exact hn
      have w := ih (i + 1) (zg_u U 226 i 1) (by omega) (fun b hb => by rw [zg_u_out _ _ _ _ hb]; exact hU b hb) (fun r hr => by
        by_cases e : r = i
        · rw [e, zg_u_in]
        · rw [zg_u_off _ _ _ _ e]; exact h1 r (by omega)) (fun r hr => by rw [zg_u_off _ _ _ _ (by omega)]; exact h2 r (by omega))
      refine zg_il1 zd_Ref_even_2 ?_
      refine zg_al0 zd_Ref_even_3 ?_
      refine zg_geti zd_Ref_even_4 zf_641 (by omega) (by first | assumption | rfl) rfl ?_
      rw [hUn]
      refine zg_icmp_ge (tgt := 23) zd_Ref_even_7 (by decide) (by omega) (by omega) (fun b7 => ?_) (fun b7 => ?_)
      · omega
      · refine zg_al0 zd_Ref_even_10 ?_
        refine zg_getr zd_Ref_even_11 zf_644 (by omega) (by first | assumption | rfl) rfl (by first | assumption | rfl) ?_
        refine zg_il1 zd_Ref_even_14 ?_
        refine zg_iconst zd_Ref_even_15 ?_
        refine zg_iast zd_Ref_even_16 (by omega) (by first | assumption | rfl) rfl (by omega) (by decide) ?_
        refine zg_inc1 zd_Ref_even_17 (fun w h => by cases h <;> rfl) (by decide) ?_
        refine zg_goto (tgt := 2) zd_Ref_even_20 (by decide) ?_
        exact w
  exact key n 0 V (by omega) (fun b _ => rfl) (fun r h => by omega) (fun r _ => rfl)
theorem cr_begin {n : Nat} {cr lim lf : Int} (hn : V 223 0 = (n : Int)) (hn16 : n ≤ 16) (hw : ∀ r, r < 16 → 0 ≤ V 226 r ∧ V 226 r ≤ 16) (h1 : -2147483648 ≤ cr ∧ cr < 2147483648) (h2 : -2147483648 ≤ lim ∧ lim < 2147483648) (h3 : -2147483648 ≤ lf ∧ lf < 2147483648) : zg_S Γ zm_Ref_begin 1 0 0 [zg_r Γ 223, zg_i cr, zg_i lim, zg_i lf] zk_K 242 (zk_P sh) V (zq_r zk_K 242 (zk_P sh) (fun rr V' => if (0 ≤ cr ∧ cr ≤ 2) ∧ (0 ≤ lim ∧ lim ≤ 4) ∧ (1 ≤ lf ∧ lf ≤ 8) then rr = some (zg_i 1) ∧ zr_an (zg_u (zg_u (zg_u V 223 5 cr) 223 6 lim) 223 7 lf) V' n else rr = some (zg_i 0) ∧ V' = V)) := by
  have hn2 : zg_u (zg_u (zg_u V 223 5 cr) 223 6 lim) 223 7 lf 223 0 = (n : Int) := by rw [zg_u_off _ _ _ _ (by decide), zg_u_off _ _ _ _ (by decide), zg_u_off _ _ _ _ (by decide)]; exact hn
  have hw2 : ∀ r, r < 16 → 0 ≤ zg_u (zg_u (zg_u V 223 5 cr) 223 6 lim) 223 7 lf 226 r ∧ zg_u (zg_u (zg_u V 223 5 cr) 223 6 lim) 223 7 lf 226 r ≤ 16 := by rw [zg_u_out _ _ _ _ (by decide), zg_u_out _ _ _ _ (by decide), zg_u_out _ _ _ _ (by decide)]; exact hw
  generalize hQ : zq_r zk_K 242 (zk_P sh) (fun rr V' => if (0 ≤ cr ∧ cr ≤ 2) ∧ (0 ≤ lim ∧ lim ≤ 4) ∧ (1 ≤ lf ∧ lf ≤ 8) then rr = some (zg_i 1) ∧ zr_an (zg_u (zg_u (zg_u V 223 5 cr) 223 6 lim) 223 7 lf) V' n else rr = some (zg_i 0) ∧ V' = V) = Q
  refine zg_enter 0 (by decide) (Nat.le_of_ble_eq_true rfl) rfl ?_
  refine zg_il1 zd_Ref_begin_0 ?_
  refine zg_if_lt (tgt := 29) zd_Ref_begin_1 (by decide) (by omega) (fun b1 => ?_) (fun b1 => ?_)
  · refine zg_iconst zd_Ref_begin_29 ?_
    refine zg_zreturn zd_Ref_begin_30 rfl (by omega) ?_
    first
    | (exfalso; omega)
    | (subst hQ
       refine ⟨rfl, rfl, rfl, ?_⟩
       show if _ then _ else _
       rw [if_neg (by omega)]
       exact ⟨rfl, rfl⟩)
    | (subst hQ
       refine ⟨rfl, rfl, rfl, ?_⟩
       show if _ then _ else _
       rw [if_pos (by omega)]
       exact ⟨rfl, q⟩)
  · refine zg_il1 zd_Ref_begin_4 ?_
    refine zg_iconst zd_Ref_begin_5 ?_
    refine zg_icmp_gt (tgt := 29) zd_Ref_begin_6 (by decide) (by omega) (by omega) (fun b6 => ?_) (fun b6 => ?_)
    · refine zg_iconst zd_Ref_begin_29 ?_
      refine zg_zreturn zd_Ref_begin_30 rfl (by omega) ?_
      first
      | (exfalso; omega)
      | (subst hQ
         refine ⟨rfl, rfl, rfl, ?_⟩
         show if _ then _ else _
         rw [if_neg (by omega)]
         exact ⟨rfl, rfl⟩)
      | (subst hQ
         refine ⟨rfl, rfl, rfl, ?_⟩
         show if _ then _ else _
         rw [if_pos (by omega)]
         exact ⟨rfl, q⟩)
    · refine zg_il2 zd_Ref_begin_9 ?_
      refine zg_if_lt (tgt := 29) zd_Ref_begin_10 (by decide) (by omega) (fun b10 => ?_) (fun b10 => ?_)
      · refine zg_iconst zd_Ref_begin_29 ?_
        refine zg_zreturn zd_Ref_begin_30 rfl (by omega) ?_
        first
        | (exfalso; omega)
        | (subst hQ
           refine ⟨rfl, rfl, rfl, ?_⟩
           show if _ then _ else _
           rw [if_neg (by omega)]
           exact ⟨rfl, rfl⟩)
        | (subst hQ
           refine ⟨rfl, rfl, rfl, ?_⟩
           show if _ then _ else _
           rw [if_pos (by omega)]
           exact ⟨rfl, q⟩)
      · refine zg_il2 zd_Ref_begin_13 ?_
        refine zg_iconst zd_Ref_begin_14 ?_
        refine zg_icmp_gt (tgt := 29) zd_Ref_begin_15 (by decide) (by omega) (by omega) (fun b15 => ?_) (fun b15 => ?_)
        · refine zg_iconst zd_Ref_begin_29 ?_
          refine zg_zreturn zd_Ref_begin_30 rfl (by omega) ?_
          first
          | (exfalso; omega)
          | (subst hQ
             refine ⟨rfl, rfl, rfl, ?_⟩
             show if _ then _ else _
             rw [if_neg (by omega)]
             exact ⟨rfl, rfl⟩)
          | (subst hQ
             refine ⟨rfl, rfl, rfl, ?_⟩
             show if _ then _ else _
             rw [if_pos (by omega)]
             exact ⟨rfl, q⟩)
        · refine zg_il3 zd_Ref_begin_18 ?_
          refine zg_iconst zd_Ref_begin_19 ?_
          refine zg_icmp_lt (tgt := 29) zd_Ref_begin_20 (by decide) (by omega) (by omega) (fun b20 => ?_) (fun b20 => ?_)
          · refine zg_iconst zd_Ref_begin_29 ?_
            refine zg_zreturn zd_Ref_begin_30 rfl (by omega) ?_
            first
            | (exfalso; omega)
            | (subst hQ
               refine ⟨rfl, rfl, rfl, ?_⟩
               show if _ then _ else _
               rw [if_neg (by omega)]
               exact ⟨rfl, rfl⟩)
            | (subst hQ
               refine ⟨rfl, rfl, rfl, ?_⟩
               show if _ then _ else _
               rw [if_pos (by omega)]
               exact ⟨rfl, q⟩)
          · refine zg_il3 zd_Ref_begin_23 ?_
            refine zg_bipush zd_Ref_begin_24 (by decide) ?_
            refine zg_icmp_le (tgt := 31) zd_Ref_begin_26 (by decide) (by omega) (by omega) (fun b26 => ?_) (fun b26 => ?_)
            · refine zg_al0 zd_Ref_begin_31 ?_
              refine zg_il1 zd_Ref_begin_32 ?_
              refine zg_puti zd_Ref_begin_33 zf_646 rfl (by omega) (by first | assumption | rfl) rfl ?_
              refine zg_al0 zd_Ref_begin_36 ?_
              refine zg_il2 zd_Ref_begin_37 ?_
              refine zg_puti zd_Ref_begin_38 zf_647 rfl (by omega) (by first | assumption | rfl) rfl ?_
              refine zg_al0 zd_Ref_begin_41 ?_
              refine zg_il3 zd_Ref_begin_42 ?_
              refine zg_puti zd_Ref_begin_43 zf_648 rfl (by omega) (by first | assumption | rfl) rfl ?_
              refine zg_al0 zd_Ref_begin_46 ?_
              refine zg_cVr0 zd_Ref_begin_47 zM_Ref_anew zw_637 zi_Ref_anew zs_Ref_anew (cr_anew hn2 hn16 hw2) (by decide) (by decide) (by omega) (by first | assumption | rfl) (by decide) rfl (Nat.le_of_ble_eq_true rfl) ?_
              intro r V2 hq
              obtain ⟨rfl, q⟩ := hq
              refine zg_iconst zd_Ref_begin_50 ?_
              refine zg_zreturn zd_Ref_begin_51 rfl (by omega) ?_
              first
              | (exfalso; omega)
              | (subst hQ
                 refine ⟨rfl, rfl, rfl, ?_⟩
                 show if _ then _ else _
                 rw [if_neg (by omega)]
                 exact ⟨rfl, rfl⟩)
              | (subst hQ
                 refine ⟨rfl, rfl, rfl, ?_⟩
                 show if _ then _ else _
                 rw [if_pos (by omega)]
                 exact ⟨rfl, q⟩)
            · refine zg_iconst zd_Ref_begin_29 ?_
              refine zg_zreturn zd_Ref_begin_30 rfl (by omega) ?_
              first
              | (exfalso; omega)
              | (subst hQ
                 refine ⟨rfl, rfl, rfl, ?_⟩
                 show if _ then _ else _
                 rw [if_neg (by omega)]
                 exact ⟨rfl, rfl⟩)
              | (subst hQ
                 refine ⟨rfl, rfl, rfl, ?_⟩
                 show if _ then _ else _
                 rw [if_pos (by omega)]
                 exact ⟨rfl, q⟩)
theorem cr_weight {n : Nat} {r : Int} (hn : V 223 0 = (n : Int)) (hn16 : n ≤ 16) (hr : -2147483648 ≤ r ∧ r < 2147483648) : zg_S Γ zm_Ref_weight 0 0 0 [zg_r Γ 223, zg_i r] zk_K 242 (zk_P sh) V (zq_p zk_K 242 (zk_P sh) V (some (zg_i (if 0 ≤ r ∧ r < (n : Int) then V 226 r.toNat else -1)))) := by
  refine zg_enter 0 (by decide) (Nat.le_of_ble_eq_true rfl) rfl ?_
  refine zg_il1 zd_Ref_weight_0 ?_
  refine zg_if_lt (tgt := 12) zd_Ref_weight_1 (by decide) (by omega) (fun b1 => ?_) (fun b1 => ?_)
  · refine zg_iconst zd_Ref_weight_12 ?_
    refine zg_goto (tgt := 22) zd_Ref_weight_13 (by decide) ?_
    refine zg_ireturn zd_Ref_weight_22 rfl ?_
    first
    | exact ⟨by rw [if_pos (by omega)], rfl, rfl, rfl, rfl⟩
    | exact ⟨by rw [if_neg (by omega)], rfl, rfl, rfl, rfl⟩
  · refine zg_il1 zd_Ref_weight_4 ?_
    refine zg_al0 zd_Ref_weight_5 ?_
    refine zg_geti zd_Ref_weight_6 zf_641 (by omega) (by first | assumption | rfl) rfl ?_
    rw [hn]
    refine zg_icmp_lt (tgt := 16) zd_Ref_weight_9 (by decide) (by omega) (by omega) (fun b9 => ?_) (fun b9 => ?_)
    · refine zg_al0 zd_Ref_weight_16 ?_
      refine zg_getr zd_Ref_weight_17 zf_644 (by omega) (by first | assumption | rfl) rfl (by first | assumption | rfl) ?_
      refine zg_il1 zd_Ref_weight_20 ?_
      refine zg_iald (j := r.toNat) zd_Ref_weight_21 (by omega) rfl (by omega) (by omega) (by decide) ?_
      refine zg_ireturn zd_Ref_weight_22 rfl ?_
      first
      | exact ⟨by rw [if_pos (by omega)], rfl, rfl, rfl, rfl⟩
      | exact ⟨by rw [if_neg (by omega)], rfl, rfl, rfl, rfl⟩
    · refine zg_iconst zd_Ref_weight_12 ?_
      refine zg_goto (tgt := 22) zd_Ref_weight_13 (by decide) ?_
      refine zg_ireturn zd_Ref_weight_22 rfl ?_
      first
      | exact ⟨by rw [if_pos (by omega)], rfl, rfl, rfl, rfl⟩
      | exact ⟨by rw [if_neg (by omega)], rfl, rfl, rfl, rfl⟩
end ZT36

