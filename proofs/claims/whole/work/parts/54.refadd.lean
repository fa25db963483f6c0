/-! the reference: votes, wrong, addRow -/
def zr_wc (V : zg_V) (r : Nat) : Int := if 0 < V 227 (4 * r + zr_ci (fun c => V 227 (4 * r + c)) 3) ∧ (zr_ci (fun c => V 227 (4 * r + c)) 3 : Int) ≠ V 225 r then 1 else 0
def zr_ar (V V1 : zg_V) (n : Nat) (a b c cl : Int) : Prop := zv_on (fun x => x = 223 ∨ x = 224 ∨ x = 225 ∨ x = 227) V V1 ∧ V1 223 0 = (n : Int) + 1 ∧ (∀ j, j ≠ 0 → V1 223 j = V 223 j) ∧ V1 224 (3 * n) = a ∧ V1 224 (3 * n + 1) = b ∧ V1 224 (3 * n + 2) = c ∧ (∀ j, j < 3 * n ∨ 3 * n + 2 < j → V1 224 j = V 224 j) ∧ V1 225 n = cl ∧ (∀ j, j ≠ n → V1 225 j = V 225 j) ∧ ∀ j, j < 64 → V1 227 j = 0
section ZT37
variable {Γ : zg_C} {V : zg_V} {sh : Nat}
theorem cr_votes {n : Nat} {r c : Int} (hn : V 223 0 = (n : Int)) (hn16 : n ≤ 16) (hr : -2147483648 ≤ r ∧ r < 2147483648) (hc : -2147483648 ≤ c ∧ c < 2147483648) : zg_S Γ zm_Ref_votes 0 0 0 [zg_r Γ 223, zg_i r, zg_i c] zk_K 242 (zk_P sh) V (zq_p zk_K 242 (zk_P sh) V (some (zg_i (if (0 ≤ r ∧ r < (n : Int)) ∧ 0 ≤ c ∧ c ≤ 3 then V 227 (4 * r.toNat + c.toNat) else -1)))) := by
  refine zg_enter 0 (by decide) (Nat.le_of_ble_eq_true rfl) rfl ?_
  refine zg_il1 zd_Ref_votes_0 ?_
  refine zg_if_lt (tgt := 21) zd_Ref_votes_1 (by decide) (by omega) (fun b1 => ?_) (fun b1 => ?_)
  · refine zg_iconst zd_Ref_votes_21 ?_
    refine zg_goto (tgt := 35) zd_Ref_votes_22 (by decide) ?_
    refine zg_ireturn zd_Ref_votes_35 rfl ?_
    first
    | exact ⟨by rw [if_pos (by omega)], rfl, rfl, rfl, rfl⟩
    | exact ⟨by rw [if_neg (by omega)], rfl, rfl, rfl, rfl⟩
  · refine zg_il1 zd_Ref_votes_4 ?_
    refine zg_al0 zd_Ref_votes_5 ?_
    refine zg_geti zd_Ref_votes_6 zf_641 (by omega) (by first | assumption | rfl) rfl ?_
    rw [hn]
    refine zg_icmp_ge (tgt := 21) zd_Ref_votes_9 (by decide) (by omega) (by omega) (fun b9 => ?_) (fun b9 => ?_)
    · refine zg_iconst zd_Ref_votes_21 ?_
      refine zg_goto (tgt := 35) zd_Ref_votes_22 (by decide) ?_
      refine zg_ireturn zd_Ref_votes_35 rfl ?_
      first
      | exact ⟨by rw [if_pos (by omega)], rfl, rfl, rfl, rfl⟩
      | exact ⟨by rw [if_neg (by omega)], rfl, rfl, rfl, rfl⟩
    · refine zg_il2 zd_Ref_votes_12 ?_
      refine zg_if_lt (tgt := 21) zd_Ref_votes_13 (by decide) (by omega) (fun b13 => ?_) (fun b13 => ?_)
      · refine zg_iconst zd_Ref_votes_21 ?_
        refine zg_goto (tgt := 35) zd_Ref_votes_22 (by decide) ?_
        refine zg_ireturn zd_Ref_votes_35 rfl ?_
        first
        | exact ⟨by rw [if_pos (by omega)], rfl, rfl, rfl, rfl⟩
        | exact ⟨by rw [if_neg (by omega)], rfl, rfl, rfl, rfl⟩
      · refine zg_il2 zd_Ref_votes_16 ?_
        refine zg_iconst zd_Ref_votes_17 ?_
        refine zg_icmp_le (tgt := 25) zd_Ref_votes_18 (by decide) (by omega) (by omega) (fun b18 => ?_) (fun b18 => ?_)
        · refine zg_al0 zd_Ref_votes_25 ?_
          refine zg_getr zd_Ref_votes_26 zf_645 (by omega) (by first | assumption | rfl) rfl (by first | assumption | rfl) ?_
          refine zg_iconst zd_Ref_votes_29 ?_
          refine zg_il1 zd_Ref_votes_30 ?_
          refine zg_imul zd_Ref_votes_31 ?_
          refine zg_il2 zd_Ref_votes_32 ?_
          refine zg_iadd zd_Ref_votes_33 ?_
          refine zg_iald (j := 4 * r.toNat + c.toNat) zd_Ref_votes_34 (by omega) rfl (by omega) (by omega) (by decide) ?_
          refine zg_ireturn zd_Ref_votes_35 rfl ?_
          first
          | exact ⟨by rw [if_pos (by omega)], rfl, rfl, rfl, rfl⟩
          | exact ⟨by rw [if_neg (by omega)], rfl, rfl, rfl, rfl⟩
        · refine zg_iconst zd_Ref_votes_21 ?_
          refine zg_goto (tgt := 35) zd_Ref_votes_22 (by decide) ?_
          refine zg_ireturn zd_Ref_votes_35 rfl ?_
          first
          | exact ⟨by rw [if_pos (by omega)], rfl, rfl, rfl, rfl⟩
          | exact ⟨by rw [if_neg (by omega)], rfl, rfl, rfl, rfl⟩
theorem cr_wrong {n : Nat} (hn : V 223 0 = (n : Int)) (hn16 : n ≤ 16) (hv : ∀ j, j < 64 → 0 ≤ V 227 j ∧ V 227 j ≤ 1000000) (hcl : ∀ r, r < 16 → 0 ≤ V 225 r ∧ V 225 r < 4) : zg_S Γ zm_Ref_wrong 0 0 0 [zg_r Γ 223] zk_K 242 (zk_P sh) V (zq_p zk_K 242 (zk_P sh) V (some (zg_i (zs_sum (zr_wc V) n)))) := by
  generalize hQ : zq_p zk_K 242 (zk_P sh) V (some (zg_i (zs_sum (zr_wc V) n))) = Q
  refine zg_enter 4 (by decide) (Nat.le_of_ble_eq_true rfl) rfl ?_
  refine zg_iconst zd_Ref_wrong_0 ?_
  refine zg_is1 zd_Ref_wrong_1 (fun w h => by cases h <;> rfl) (by decide) ?_
  refine zg_iconst zd_Ref_wrong_2 ?_
  refine zg_is2 zd_Ref_wrong_3 (fun w h => by cases h <;> rfl) (by decide) ?_
  have outer : ∀ (j r : Nat) (o3 o4 : Option Value) (hij : r + j = n), zg_G Γ (fun _ => True) zm_Ref_wrong (zg_rm 0 0 0) (zg_Ω Γ (Q) 0 0) 0 0 4 [some (zg_r Γ (223)), some (zg_i (zs_sum (zr_wc V) r)), some (zg_i ((r : Nat))), o3, o4] [] zk_K 242 (zk_P sh) (V) := by
    intro j
    induction j with
    | zero =>
      intro r o3 o4 hij
      have e : r = n := by omega
      subst e
      refine zg_il2 zd_Ref_wrong_4 ?_
      refine zg_al0 zd_Ref_wrong_5 ?_
      refine zg_geti zd_Ref_wrong_6 zf_641 (by omega) (by first | assumption | rfl) rfl ?_
      rw [hn]
      refine zg_icmp_ge (tgt := 97) zd_Ref_wrong_9 (by decide) (by omega) (by omega) (fun b9 => ?_) (fun b9 => ?_)
      · refine zg_il1 zd_Ref_wrong_97 ?_
        refine zg_ireturn zd_Ref_wrong_98 rfl ?_
        subst hQ; exact ⟨rfl, rfl, rfl, rfl, rfl⟩
      · omega
    | succ j ih =>
      intro r o3 o4 hij
      have hclr := hcl r (by omega)
      generalize hms : (fun c => V 227 (4 * r + c)) = ms
      have hmsv : ∀ c, V 227 (4 * r + c) = ms c := fun c => by rw [← hms]
      have hmb : ∀ c, c < 4 → 0 ≤ ms c ∧ ms c ≤ 1000000 := fun c hc => by rw [← hmsv]; exact hv _ (by omega)
      have inner : ∀ (g c : Nat) (hg : c + g = 3), zg_G Γ (fun _ => True) zm_Ref_wrong (zg_rm 0 0 0) (zg_Ω Γ (Q) 0 0) 0 0 17 [some (zg_r Γ (223)), some (zg_i (zs_sum (zr_wc V) r)), some (zg_i ((r : Nat))), some (zg_i ((zr_ci ms c : Nat))), some (zg_i (((c : Nat) : Int) + 1))] [] zk_K 242 (zk_P sh) (V) := by
        intro g
        induction g with
        | zero =>
          intro c hg
          have e : c = 3 := by omega
          subst e
          have hb := zr_ci_b ms 3
          have hx := hmb (zr_ci ms 3) (by omega)
          have hwc : zr_wc V r = if 0 < ms (zr_ci ms 3) ∧ (zr_ci ms 3 : Int) ≠ V 225 r then 1 else 0 := by unfold zr_wc; rw [hms, hmsv]
          have ih := ih (r + 1) (some (zg_i (zr_ci ms 3 : Nat))) (some (zg_i (((3 : Nat) : Int) + 1))) (by omega)
          rw [zs_sum_s, hwc] at ih
          refine zg_il4 zd_Ref_wrong_17 ?_
          refine zg_iconst zd_Ref_wrong_19 ?_
          refine zg_icmp_ge (tgt := 60) zd_Ref_wrong_20 (by decide) (by omega) (by omega) (fun b20 => ?_) (fun b20 => ?_)
          · refine zg_al0 zd_Ref_wrong_60 ?_
            refine zg_getr zd_Ref_wrong_61 zf_645 (by omega) (by first | assumption | rfl) rfl (by first | assumption | rfl) ?_
            refine zg_iconst zd_Ref_wrong_64 ?_
            refine zg_il2 zd_Ref_wrong_65 ?_
            refine zg_imul zd_Ref_wrong_66 ?_
            refine zg_il3 zd_Ref_wrong_67 ?_
            refine zg_iadd zd_Ref_wrong_68 ?_
            refine zg_iald (j := 4 * r + zr_ci ms 3) zd_Ref_wrong_69 (by omega) rfl (by omega) (by omega) (by decide) ?_
            rw [hmsv]
            refine zg_if_le (tgt := 89) zd_Ref_wrong_70 (by decide) (by omega) (fun b70 => ?_) (fun b70 => ?_)
            · refine zg_il1 zd_Ref_wrong_89 ?_
              refine zg_is1 zd_Ref_wrong_90 (fun w h => by cases h <;> rfl) (by decide) ?_
              refine zg_inc2 zd_Ref_wrong_91 (fun w h => by cases h <;> rfl) (by decide) ?_
              refine zg_goto (tgt := 4) zd_Ref_wrong_94 (by decide) ?_
              first
              | (rw [if_pos ⟨by omega, by omega⟩] at ih; exact ih)
              | (rw [if_neg (by omega), Int.add_zero] at ih; exact ih)
            · refine zg_il3 zd_Ref_wrong_73 ?_
              refine zg_al0 zd_Ref_wrong_74 ?_
              refine zg_getr zd_Ref_wrong_75 zf_643 (by omega) (by first | assumption | rfl) rfl (by first | assumption | rfl) ?_
              refine zg_il2 zd_Ref_wrong_78 ?_
              refine zg_iald zd_Ref_wrong_79 (by omega) (by first | assumption | rfl) rfl (by omega) (by decide) ?_
              refine zg_icmp_eq (tgt := 89) zd_Ref_wrong_80 (by decide) (by omega) (by omega) (fun b80 => ?_) (fun b80 => ?_)
              · refine zg_il1 zd_Ref_wrong_89 ?_
                refine zg_is1 zd_Ref_wrong_90 (fun w h => by cases h <;> rfl) (by decide) ?_
                refine zg_inc2 zd_Ref_wrong_91 (fun w h => by cases h <;> rfl) (by decide) ?_
                refine zg_goto (tgt := 4) zd_Ref_wrong_94 (by decide) ?_
                first
                | (rw [if_pos ⟨by omega, by omega⟩] at ih; exact ih)
                | (rw [if_neg (by omega), Int.add_zero] at ih; exact ih)
              · refine zg_il1 zd_Ref_wrong_83 ?_
                refine zg_iconst zd_Ref_wrong_84 ?_
                refine zg_iadd zd_Ref_wrong_85 ?_
                refine zg_goto (tgt := 90) zd_Ref_wrong_86 (by decide) ?_
                refine zg_is1 zd_Ref_wrong_90 (fun w h => by cases h <;> rfl) (by decide) ?_
                refine zg_inc2 zd_Ref_wrong_91 (fun w h => by cases h <;> rfl) (by decide) ?_
                refine zg_goto (tgt := 4) zd_Ref_wrong_94 (by decide) ?_
                first
                | (rw [if_pos ⟨by omega, by omega⟩] at ih; exact ih)
                | (rw [if_neg (by omega), Int.add_zero] at ih; exact ih)
          · omega
        | succ g ihg =>
          intro c hg
          have ihg := ihg (c + 1) (by omega)
          rw [zr_ci_s] at ihg
          have hb := zr_ci_b ms c
          have hx := hmb (zr_ci ms c) (by omega)
          have hy := hmb (c + 1) (by omega)
          refine zg_il4 zd_Ref_wrong_17 ?_
          refine zg_iconst zd_Ref_wrong_19 ?_
          refine zg_icmp_ge (tgt := 60) zd_Ref_wrong_20 (by decide) (by omega) (by omega) (fun b20 => ?_) (fun b20 => ?_)
          · omega
          · refine zg_al0 zd_Ref_wrong_23 ?_
            refine zg_getr zd_Ref_wrong_24 zf_645 (by omega) (by first | assumption | rfl) rfl (by first | assumption | rfl) ?_
            refine zg_iconst zd_Ref_wrong_27 ?_
            refine zg_il2 zd_Ref_wrong_28 ?_
            refine zg_imul zd_Ref_wrong_29 ?_
            refine zg_il4 zd_Ref_wrong_30 ?_
            refine zg_iadd zd_Ref_wrong_32 ?_
            refine zg_iald (j := 4 * r + (c + 1)) zd_Ref_wrong_33 (by omega) rfl (by omega) (by omega) (by decide) ?_
            rw [hmsv]
            refine zg_al0 zd_Ref_wrong_34 ?_
            refine zg_getr zd_Ref_wrong_35 zf_645 (by omega) (by first | assumption | rfl) rfl (by first | assumption | rfl) ?_
            refine zg_iconst zd_Ref_wrong_38 ?_
            refine zg_il2 zd_Ref_wrong_39 ?_
            refine zg_imul zd_Ref_wrong_40 ?_
            refine zg_il3 zd_Ref_wrong_41 ?_
            refine zg_iadd zd_Ref_wrong_42 ?_
            refine zg_iald (j := 4 * r + zr_ci ms c) zd_Ref_wrong_43 (by omega) rfl (by omega) (by omega) (by decide) ?_
            rw [hmsv]
            refine zg_icmp_le (tgt := 52) zd_Ref_wrong_44 (by decide) (by omega) (by omega) (fun b44 => ?_) (fun b44 => ?_)
            · refine zg_il3 zd_Ref_wrong_52 ?_
              refine zg_is3 zd_Ref_wrong_53 (fun w h => by cases h <;> rfl) (by decide) ?_
              refine zg_inc4 zd_Ref_wrong_54 (fun w h => by cases h <;> rfl) (by decide) ?_
              refine zg_goto (tgt := 17) zd_Ref_wrong_57 (by decide) ?_
              first
              | (rw [if_pos (by omega)] at ihg; exact ihg)
              | (rw [if_neg (by omega)] at ihg; exact ihg)
            · refine zg_il4 zd_Ref_wrong_47 ?_
              refine zg_goto (tgt := 53) zd_Ref_wrong_49 (by decide) ?_
              refine zg_is3 zd_Ref_wrong_53 (fun w h => by cases h <;> rfl) (by decide) ?_
              refine zg_inc4 zd_Ref_wrong_54 (fun w h => by cases h <;> rfl) (by decide) ?_
              refine zg_goto (tgt := 17) zd_Ref_wrong_57 (by decide) ?_
              first
              | (rw [if_pos (by omega)] at ihg; exact ihg)
              | (rw [if_neg (by omega)] at ihg; exact ihg)
      refine zg_il2 zd_Ref_wrong_4 ?_
      refine zg_al0 zd_Ref_wrong_5 ?_
      refine zg_geti zd_Ref_wrong_6 zf_641 (by omega) (by first | assumption | rfl) rfl ?_
      rw [hn]
      refine zg_icmp_ge (tgt := 97) zd_Ref_wrong_9 (by decide) (by omega) (by omega) (fun b9 => ?_) (fun b9 => ?_)
      · omega
      · refine zg_iconst zd_Ref_wrong_12 ?_
        refine zg_is3 zd_Ref_wrong_13 (fun w h => by cases h <;> rfl) (by decide) ?_
        refine zg_iconst zd_Ref_wrong_14 ?_
        refine zg_is4 zd_Ref_wrong_15 (fun w h => by cases h <;> rfl) (by decide) ?_
        exact inner 3 0 (by omega)
  exact outer n 0 _ _ (by omega)
theorem cr_addRow {n : Nat} {a b c cl : Int} (hn : V 223 0 = (n : Int)) (hn16 : n ≤ 16) (hw : ∀ r, r < 16 → 0 ≤ V 226 r ∧ V 226 r ≤ 16) (hcl : -2147483648 ≤ cl ∧ cl < 2147483648) : zg_S Γ zm_Ref_addRow 2 0 0 [zg_r Γ 223, zg_i a, zg_i b, zg_i c, zg_i cl] zk_K 242 (zk_P sh) V (zq_r zk_K 242 (zk_P sh) (fun rr V' => if (0 ≤ cl ∧ cl ≤ 3) ∧ n < 16 then rr = some (zg_i (n : Int)) ∧ ∃ V1, zr_ar V V1 n a b c cl ∧ zr_ev V1 V' (n + 1) else rr = some (zg_i (-1)) ∧ V' = V)) := by
  generalize hQ : zq_r zk_K 242 (zk_P sh) (fun rr V' => if (0 ≤ cl ∧ cl ≤ 3) ∧ n < 16 then rr = some (zg_i (n : Int)) ∧ ∃ V1, zr_ar V V1 n a b c cl ∧ zr_ev V1 V' (n + 1) else rr = some (zg_i (-1)) ∧ V' = V) = Q
  refine zg_enter 1 (by decide) (Nat.le_of_ble_eq_true rfl) rfl ?_
  have body : (0 ≤ cl ∧ cl ≤ 3) → n < 16 → zg_G Γ (fun _ => True) zm_Ref_addRow (zg_rm 2 0 0) (zg_Ω Γ (Q) 0 0) 0 0 22 [some (zg_r Γ (223)), some (zg_i (a)), some (zg_i (b)), some (zg_i (c)), some (zg_i (cl)), none] [] zk_K 242 (zk_P sh) (V) := by
    intro hc1 hn1
    have loop : ∀ (j i : Nat) (U : zg_V) (hij : i + j = 64) (hU : zv_on (fun x => x = 223 ∨ x = 224 ∨ x = 225 ∨ x = 227) V U) (u0 : U 223 0 = (n : Int) + 1) (uf : ∀ j, j ≠ 0 → U 223 j = V 223 j) (ua : U 224 (3 * n) = a) (ub : U 224 (3 * n + 1) = b) (uc : U 224 (3 * n + 2) = c) (ux : ∀ j, j < 3 * n ∨ 3 * n + 2 < j → U 224 j = V 224 j) (ucl : U 225 n = cl) (uy : ∀ j, j ≠ n → U 225 j = V 225 j) (uz : ∀ j, j < i → U 227 j = 0), zg_G Γ (fun _ => True) zm_Ref_addRow (zg_rm 2 0 0) (zg_Ω Γ (Q) 0 0) 0 0 86 [some (zg_r Γ (223)), some (zg_i (a)), some (zg_i (b)), some (zg_i (c)), some (zg_i (cl)), some (zg_i ((i : Nat)))] [] zk_K 242 (zk_P sh) (U) := by
      intro j
      induction j with
      | zero =>
        intro i U hij hU u0 uf ua ub uc ux ucl uy uz
        have e : i = 64 := by omega
        subst e
        have hUn : U 223 0 = ((n + 1 : Nat) : Int) := by rw [u0]; omega
        have hUw : ∀ r, r < 16 → 0 ≤ U 226 r ∧ U 226 r ≤ 16 := by rw [hU 226 (by decide)]; exact hw
        refine zg_il5 zd_Ref_addRow_86 ?_
        refine zg_bipush zd_Ref_addRow_88 (by decide) ?_
        refine zg_icmp_ge (tgt := 107) zd_Ref_addRow_90 (by decide) (by omega) (by omega) (fun b90 => ?_) (fun b90 => ?_)
        · refine zg_al0 zd_Ref_addRow_107 ?_
          refine zg_cVr0 zd_Ref_addRow_108 zM_Ref_even zw_750 zi_Ref_even zs_Ref_even (cr_even hUn (by omega) hUw) (by decide) (by decide) (by omega) (by first | assumption | rfl) (by decide) rfl (Nat.le_of_ble_eq_true rfl) ?_
          intro r V2 hq
          obtain ⟨rfl, q⟩ := hq
          have e0 : V2 223 0 = (n : Int) + 1 := by
            obtain ⟨V1, v1, -, -, v4⟩ := q
            rw [v4.2.1 0 (by decide), v1 223 (by decide), u0]
          refine zg_al0 zd_Ref_addRow_111 ?_
          refine zg_geti zd_Ref_addRow_112 zf_641 (by omega) (by first | assumption | rfl) rfl ?_
          rw [e0]
          refine zg_iconst zd_Ref_addRow_115 ?_
          refine zg_isub zd_Ref_addRow_116 ?_
          rw [show (n : Int) + 1 - 1 = (n : Int) by omega]
          refine zg_ireturn zd_Ref_addRow_117 rfl ?_
          subst hQ
          refine ⟨rfl, rfl, rfl, ?_⟩
          show if _ then _ else _
          rw [if_pos ⟨hc1, hn1⟩]
          exact ⟨rfl, U, ⟨hU, u0, uf, ua, ub, uc, ux, ucl, uy, uz⟩, q⟩
        · omega
      | succ j ih =>
        intro i U hij hU u0 uf ua ub uc ux ucl uy uz
        have w := ih (i + 1) (zg_u U 227 i 0) (by omega) (fun x hx => by rw [zg_u_out _ _ _ _ (by omega)]; exact hU x hx) (by rw [zg_u_out _ _ _ _ (by decide)]; exact u0) (by rw [zg_u_out _ _ _ _ (by decide)]; exact uf) (by rw [zg_u_out _ _ _ _ (by decide)]; exact ua) (by rw [zg_u_out _ _ _ _ (by decide)]; exact ub) (by rw [zg_u_out _ _ _ _ (by decide)]; exact uc) (by rw [zg_u_out _ _ _ _ (by decide)]; exact ux) (by rw [zg_u_out _ _ _ _ (by decide)]; exact ucl) (by rw [zg_u_out _ _ _ _ (by decide)]; exact uy) (fun k hk => by
          by_cases e : k = i
          · rw [e, zg_u_in]
          · rw [zg_u_off _ _ _ _ e]; exact uz k (by omega))
        refine zg_il5 zd_Ref_addRow_86 ?_
        refine zg_bipush zd_Ref_addRow_88 (by decide) ?_
        refine zg_icmp_ge (tgt := 107) zd_Ref_addRow_90 (by decide) (by omega) (by omega) (fun b90 => ?_) (fun b90 => ?_)
        · omega
        · refine zg_al0 zd_Ref_addRow_93 ?_
          refine zg_getr zd_Ref_addRow_94 zf_645 (by omega) (by first | assumption | rfl) rfl (by first | assumption | rfl) ?_
          refine zg_il5 zd_Ref_addRow_97 ?_
          refine zg_iconst zd_Ref_addRow_99 ?_
          refine zg_iast zd_Ref_addRow_100 (by omega) (by first | assumption | rfl) rfl (by omega) (by decide) ?_
          refine zg_inc5 zd_Ref_addRow_101 (fun w h => by cases h <;> rfl) (by decide) ?_
          refine zg_goto (tgt := 86) zd_Ref_addRow_104 (by decide) ?_
          exact w
    have h1 : zg_u V 224 (3 * n) a 223 0 = (n : Int) := by rw [zg_u_out _ _ _ _ (by decide)]; exact hn
    have h2 : zg_u (zg_u V 224 (3 * n) a) 224 (3 * n + 1) b 223 0 = (n : Int) := by rw [zg_u_out _ _ _ _ (by decide)]; exact h1
    have h3 : zg_u (zg_u (zg_u V 224 (3 * n) a) 224 (3 * n + 1) b) 224 (3 * n + 2) c 223 0 = (n : Int) := by rw [zg_u_out _ _ _ _ (by decide)]; exact h2
    have h4 : zg_u (zg_u (zg_u (zg_u V 224 (3 * n) a) 224 (3 * n + 1) b) 224 (3 * n + 2) c) 225 n cl 223 0 = (n : Int) := by rw [zg_u_out _ _ _ _ (by decide)]; exact h3
    generalize hV4 : zg_u (zg_u (zg_u (zg_u V 224 (3 * n) a) 224 (3 * n + 1) b) 224 (3 * n + 2) c) 225 n cl = V4 at *
    have o4 : ∀ x, x ≠ 224 → x ≠ 225 → V4 x = V x := fun x p q => by rw [← hV4, zg_u_out _ _ _ _ q, zg_u_out _ _ _ _ p, zg_u_out _ _ _ _ p, zg_u_out _ _ _ _ p]
    have w := loop 64 0 (zg_u V4 223 0 ((n : Int) + 1)) (by omega) (fun x hx => by rw [zg_u_out _ _ _ _ (by omega)]; exact o4 x (by omega) (by omega)) (zg_u_in _ _ _ _) (fun j hj => by rw [zg_u_off _ _ _ _ hj, o4 223 (by decide) (by decide)])
      (by rw [zg_u_out _ _ _ _ (by decide), ← hV4]; simp [zg_u]) (by rw [zg_u_out _ _ _ _ (by decide), ← hV4]; simp [zg_u]) (by rw [zg_u_out _ _ _ _ (by decide), ← hV4]; simp [zg_u])
      (fun j hj => by rw [zg_u_out _ _ _ _ (by decide), ← hV4, zg_u_out _ _ _ _ (by decide), zg_u_off _ _ _ _ (by omega), zg_u_off _ _ _ _ (by omega), zg_u_off _ _ _ _ (by omega)])
      (by rw [zg_u_out _ _ _ _ (by decide), ← hV4, zg_u_in]) (fun j hj => by rw [zg_u_out _ _ _ _ (by decide), ← hV4, zg_u_off _ _ _ _ hj, zg_u_out _ _ _ _ (by decide), zg_u_out _ _ _ _ (by decide), zg_u_out _ _ _ _ (by decide)]) (fun j hj => by omega)
    refine zg_al0 zd_Ref_addRow_22 ?_
    refine zg_getr zd_Ref_addRow_23 zf_642 (by omega) (by first | assumption | rfl) rfl (by first | assumption | rfl) ?_
    refine zg_iconst zd_Ref_addRow_26 ?_
    refine zg_al0 zd_Ref_addRow_27 ?_
    refine zg_geti zd_Ref_addRow_28 zf_641 (by omega) (by first | assumption | rfl) rfl ?_
    rw [hn]
    refine zg_imul zd_Ref_addRow_31 ?_
    refine zg_il1 zd_Ref_addRow_32 ?_
    refine zg_iast (j := 3 * n) zd_Ref_addRow_33 (by omega) rfl (by omega) (by omega) (by decide) ?_
    refine zg_al0 zd_Ref_addRow_34 ?_
    refine zg_getr zd_Ref_addRow_35 zf_642 (by omega) (by first | assumption | rfl) rfl (by first | assumption | rfl) ?_
    refine zg_iconst zd_Ref_addRow_38 ?_
    refine zg_al0 zd_Ref_addRow_39 ?_
    refine zg_geti zd_Ref_addRow_40 zf_641 (by omega) (by first | assumption | rfl) rfl ?_
    rw [h1]
    refine zg_imul zd_Ref_addRow_43 ?_
    refine zg_iconst zd_Ref_addRow_44 ?_
    refine zg_iadd zd_Ref_addRow_45 ?_
    refine zg_il2 zd_Ref_addRow_46 ?_
    refine zg_iast (j := 3 * n + 1) zd_Ref_addRow_47 (by omega) rfl (by omega) (by omega) (by decide) ?_
    refine zg_al0 zd_Ref_addRow_48 ?_
    refine zg_getr zd_Ref_addRow_49 zf_642 (by omega) (by first | assumption | rfl) rfl (by first | assumption | rfl) ?_
    refine zg_iconst zd_Ref_addRow_52 ?_
    refine zg_al0 zd_Ref_addRow_53 ?_
    refine zg_geti zd_Ref_addRow_54 zf_641 (by omega) (by first | assumption | rfl) rfl ?_
    rw [h2]
    refine zg_imul zd_Ref_addRow_57 ?_
    refine zg_iconst zd_Ref_addRow_58 ?_
    refine zg_iadd zd_Ref_addRow_59 ?_
    refine zg_il3 zd_Ref_addRow_60 ?_
    refine zg_iast (j := 3 * n + 2) zd_Ref_addRow_61 (by omega) rfl (by omega) (by omega) (by decide) ?_
    refine zg_al0 zd_Ref_addRow_62 ?_
    refine zg_getr zd_Ref_addRow_63 zf_643 (by omega) (by first | assumption | rfl) rfl (by first | assumption | rfl) ?_
    refine zg_al0 zd_Ref_addRow_66 ?_
    refine zg_geti zd_Ref_addRow_67 zf_641 (by omega) (by first | assumption | rfl) rfl ?_
    rw [h3]
    refine zg_il4 zd_Ref_addRow_70 ?_
    refine zg_iast (j := n) zd_Ref_addRow_72 (by omega) rfl rfl (by omega) (by decide) ?_
    rw [hV4]
    refine zg_al0 zd_Ref_addRow_73 ?_
    refine zg_dup zd_Ref_addRow_74 rfl ?_
    refine zg_geti zd_Ref_addRow_75 zf_641 (by omega) (by first | assumption | rfl) rfl ?_
    rw [h4]
    refine zg_iconst zd_Ref_addRow_78 ?_
    refine zg_iadd zd_Ref_addRow_79 ?_
    refine zg_puti zd_Ref_addRow_80 zf_641 rfl (by omega) (by first | assumption | rfl) rfl ?_
    refine zg_iconst zd_Ref_addRow_83 ?_
    refine zg_is5 zd_Ref_addRow_84 (fun w h => by cases h <;> rfl) (by decide) ?_
    exact w
  refine zg_il4 zd_Ref_addRow_0 ?_
  refine zg_if_lt (tgt := 20) zd_Ref_addRow_2 (by decide) (by omega) (fun b2 => ?_) (fun b2 => ?_)
  · refine zg_iconst zd_Ref_addRow_20 ?_
    refine zg_ireturn zd_Ref_addRow_21 rfl ?_
    first
    | (exfalso; omega)
    | (subst hQ
       refine ⟨rfl, rfl, rfl, ?_⟩
       show if _ then _ else _
       rw [if_neg (by omega)]
       exact ⟨rfl, rfl⟩)
  · refine zg_il4 zd_Ref_addRow_5 ?_
    refine zg_iconst zd_Ref_addRow_7 ?_
    refine zg_icmp_gt (tgt := 20) zd_Ref_addRow_8 (by decide) (by omega) (by omega) (fun b8 => ?_) (fun b8 => ?_)
    · refine zg_iconst zd_Ref_addRow_20 ?_
      refine zg_ireturn zd_Ref_addRow_21 rfl ?_
      first
      | (exfalso; omega)
      | (subst hQ
         refine ⟨rfl, rfl, rfl, ?_⟩
         show if _ then _ else _
         rw [if_neg (by omega)]
         exact ⟨rfl, rfl⟩)
    · refine zg_al0 zd_Ref_addRow_11 ?_
      refine zg_geti zd_Ref_addRow_12 zf_641 (by omega) (by first | assumption | rfl) rfl ?_
      refine zg_bipush zd_Ref_addRow_15 (by decide) ?_
      rw [hn]
      refine zg_icmp_lt (tgt := 22) zd_Ref_addRow_17 (by decide) (by omega) (by omega) (fun b17 => ?_) (fun b17 => ?_)
      · exact body (by omega) (by omega)
      · refine zg_iconst zd_Ref_addRow_20 ?_
        refine zg_ireturn zd_Ref_addRow_21 rfl ?_
        first
        | (exfalso; omega)
        | (subst hQ
           refine ⟨rfl, rfl, rfl, ?_⟩
           show if _ then _ else _
           rw [if_neg (by omega)]
           exact ⟨rfl, rfl⟩)
end ZT37

