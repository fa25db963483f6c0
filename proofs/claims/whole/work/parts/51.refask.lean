/-! the reference: questions about a node -/
/-- what a question may change -/
def zr_qq (V V' : zg_V) : Prop := zv_on (fun b => b = 223 ∨ (232 ≤ b ∧ b ≤ 241)) V V' ∧ (∀ j, j < 15 ∨ (19 < j ∧ j < 24) ∨ (26 < j ∧ j ≠ 31) → V' 223 j = V 223 j) ∧ zr_sc V'
theorem zr_qq_k {V V' : zg_V} (hs : zr_sc V) (h : zv_on (fun b => 236 ≤ b ∧ b ≤ 239) V V') : zr_qq V V' := by
  have e : V' 223 = V 223 := h 223 (by omega)
  refine ⟨fun b hb => h b (by omega), fun j _ => by rw [e], ?_⟩
  unfold zr_sc
  rw [e]
  exact hs
theorem zr_qq_z {V U V' : zg_V} (h : zr_qq V U) (h' : zr_zi U V') : zr_qq V V' :=
  ⟨fun b hb => by rw [h'.1 b (by omega)]; exact h.1 b hb, fun j hj => by rw [h'.2.1 j (by omega)]; exact h.2.1 j hj, by rw [h'.2.1 18 (by omega)]; exact h.2.2.1, h'.2.2.1, h'.2.2.2⟩
theorem zr_kv_b {V : zg_V} {n : Nat} {sr : Nat → Nat} (hI : zr_In V n sr) (k : Int) : -1 ≤ zr_kv V n sr k ∧ zr_kv V n sr k ≤ 2 ∧ (0 ≤ zr_kv V n sr k → 1 ≤ k ∧ k < 32) ∧ (zr_kv V n sr k = 2 → V 228 k.toNat = 3) := by
  unfold zr_kv
  split
  · rename_i hk
    have hs := hI.2.1 k.toNat (by omega)
    split
    · have hb : -1 ≤ zc_kk (zr_er V n sr) (zr_sp V) (zr_kd V) (V 223 13) (V 223 14) k.toNat ∧ zc_kk (zr_er V n sr) (zr_sp V) (zr_kd V) (V 223 13) (V 223 14) k.toNat ≤ 2 := by
        unfold zc_kk zr_kd
        split
        · omega
        · split <;> omega
      have hz : zc_sh (zr_er V n sr) (zr_sp V) (zr_kd V) (V 223 13) (V 223 14) k.toNat = 2 → V 228 k.toNat = 3 := fun h => by
        have := ((zc_sh2 (S := zr_sp V) (kd := zr_kd V) (fun j => ⟨fun h => by have h2 : V 228 j = 3 := of_decide_eq_true h; unfold zr_kd; omega, fun h => decide_eq_true (by unfold zr_kd at h; omega)⟩) (by omega)).mp h).1
        exact of_decide_eq_true this.2.1
      rcases zt_do_f (zc_kk (zr_er V n sr) (zr_sp V) (zr_kd V) (V 223 13) (V 223 14)) k.toNat with q | q
      · have q' : zc_sh (zr_er V n sr) (zr_sp V) (zr_kd V) (V 223 13) (V 223 14) k.toNat = _ := q
        refine ⟨by rw [q']; exact hb.1, by rw [q']; exact hb.2, fun _ => hk, hz⟩
      · have q' : zc_sh (zr_er V n sr) (zr_sp V) (zr_kd V) (V 223 13) (V 223 14) k.toNat = -1 := q
        rw [q']
        exact ⟨by omega, by omega, fun h => by omega, fun h => by omega⟩
    · unfold zr_kd
      exact ⟨by omega, by omega, fun _ => hk, fun h => by omega⟩
  · exact ⟨by omega, by omega, fun h => by omega, fun h => by omega⟩
/-- the numbers of the split nodes -/
def zr_Fe (V : zg_V) (ft : Nat → Nat) : Prop := ∀ k, k < 32 → V 228 k = 3 → V 230 k = (ft k : Int) ∧ ft k < 3 ∧ (-2147483648 ≤ V 231 k ∧ V 231 k < 2147483648)
section ZT34
variable {Γ : zg_C} {V : zg_V} {sh : Nat}
theorem cr_rowsOf {n : Nat} {sr : Nat → Nat} {k : Int} (hk : -2147483648 ≤ k ∧ k < 2147483648) (hI : zr_In V n sr) (hsc : zr_sc V) : zg_S Γ zm_Ref_rowsOf 6 0 0 [zg_r Γ 223, zg_i k] zk_K 242 (zk_P sh) V (zq_r zk_K 242 (zk_P sh) (fun rr V' => rr = some (zg_i (if 0 ≤ zr_kv V n sr k then (sr k.toNat : Int) else -1)) ∧ zr_qq V V')) := by
  obtain ⟨k1, k2, k3, -⟩ := zr_kv_b hI k
  generalize hQ : zq_r zk_K 242 (zk_P sh) (fun rr V' => rr = some (zg_i (if 0 ≤ zr_kv V n sr k then (sr k.toNat : Int) else -1)) ∧ zr_qq V V') = Q
  refine zg_enter 0 (by decide) (Nat.le_of_ble_eq_true rfl) rfl ?_
  refine zg_al0 zd_Ref_rowsOf_0 ?_
  refine zg_il1 zd_Ref_rowsOf_1 ?_
  refine zg_cVr1 zd_Ref_rowsOf_2 zM_Ref_kind zw_860 zi_Ref_kind zs_Ref_kind (cr_kind hk hI) (by decide) (by decide) (by omega) (by first | assumption | rfl) (by decide) rfl (Nat.le_of_ble_eq_true rfl) ?_
  intro r V1 hq
  obtain ⟨rfl, q1⟩ := hq
  have hV1 := zr_qq_k hsc q1
  have e9 : V1 229 = V 229 := q1 229 (by omega)
  refine zg_if_ge (tgt := 12) zd_Ref_rowsOf_5 (by decide) (by omega) (fun b5 => ?_) (fun b5 => ?_)
  · refine zg_al0 zd_Ref_rowsOf_12 ?_
    refine zg_getr zd_Ref_rowsOf_13 zf_650 (by omega) (by first | assumption | rfl) rfl (by first | assumption | rfl) ?_
    refine zg_il1 zd_Ref_rowsOf_16 ?_
    refine zg_iald (j := k.toNat) zd_Ref_rowsOf_17 (by omega) rfl (by have := k3 b5; omega) (by have := k3 b5; omega) (by decide) ?_
    refine zg_ireturn zd_Ref_rowsOf_18 rfl ?_
    subst hQ
    first
      | exact ⟨rfl, rfl, rfl, by rw [if_pos b5, e9, (hI.1 k.toNat (by have := k3 b5; omega)).1], hV1⟩
      | exact ⟨rfl, rfl, rfl, by rw [if_neg b5], hV1⟩
  · refine zg_iconst zd_Ref_rowsOf_8 ?_
    refine zg_goto (tgt := 18) zd_Ref_rowsOf_9 (by decide) ?_
    refine zg_ireturn zd_Ref_rowsOf_18 rfl ?_
    subst hQ
    first
      | exact ⟨rfl, rfl, rfl, by rw [if_pos b5, e9, (hI.1 k.toNat (by have := k3 b5; omega)).1], hV1⟩
      | exact ⟨rfl, rfl, rfl, by rw [if_neg b5], hV1⟩
theorem cr_classOf {n : Nat} {sr : Nat → Nat} {k : Int} (hk : -2147483648 ≤ k ∧ k < 2147483648) (hI : zr_In V n sr) (hsc : zr_sc V) : zg_S Γ zm_Ref_classOf 6 0 0 [zg_r Γ 223, zg_i k] zk_K 242 (zk_P sh) V (zq_r zk_K 242 (zk_P sh) (fun rr V' => rr = some (zg_i (if 0 ≤ zr_kv V n sr k then ((zr_ci (zt_ms (V 225) (V 226) (sr k.toNat) n) 3 : Nat) : Int) else -1)) ∧ zr_qq V V')) := by
  obtain ⟨k1, k2, k3, -⟩ := zr_kv_b hI k
  generalize hQ : zq_r zk_K 242 (zk_P sh) (fun rr V' => rr = some (zg_i (if 0 ≤ zr_kv V n sr k then ((zr_ci (zt_ms (V 225) (V 226) (sr k.toNat) n) 3 : Nat) : Int) else -1)) ∧ zr_qq V V') = Q
  refine zg_enter 0 (by decide) (Nat.le_of_ble_eq_true rfl) rfl ?_
  refine zg_al0 zd_Ref_classOf_0 ?_
  refine zg_il1 zd_Ref_classOf_1 ?_
  refine zg_cVr1 zd_Ref_classOf_2 zM_Ref_kind zw_860 zi_Ref_kind zs_Ref_kind (cr_kind hk hI) (by decide) (by decide) (by omega) (by first | assumption | rfl) (by decide) rfl (Nat.le_of_ble_eq_true rfl) ?_
  intro r V1 hq
  obtain ⟨rfl, q1⟩ := hq
  have hV1 := zr_qq_k hsc q1
  have e9 : V1 229 = V 229 := q1 229 (by omega)
  have hT1 : zr_T V1 n := zr_T_fr (fun b _ h => q1 b (by omega)) (by rw [q1 223 (by omega)]) hI.2.2.2.1
  refine zg_if_ge (tgt := 12) zd_Ref_classOf_5 (by decide) (by omega) (fun b5 => ?_) (fun b5 => ?_)
  · refine zg_al0 zd_Ref_classOf_12 ?_
    refine zg_al0 zd_Ref_classOf_13 ?_
    refine zg_getr zd_Ref_classOf_14 zf_650 (by omega) (by first | assumption | rfl) rfl (by first | assumption | rfl) ?_
    refine zg_il1 zd_Ref_classOf_17 ?_
    refine zg_iald (j := k.toNat) zd_Ref_classOf_18 (by omega) rfl (by have := k3 b5; omega) (by have := k3 b5; omega) (by decide) ?_
    rw [e9, (hI.1 k.toNat (by have := k3 b5; omega)).1]
    refine zg_cVp1 zd_Ref_classOf_19 zM_Ref_classIn zw_820 zi_Ref_classIn zs_Ref_classIn (cr_classIn (hI.1 k.toNat (by have := k3 b5; omega)).2 hT1) (by decide) (by decide) (by omega) (by first | assumption | rfl) (by decide) rfl (Nat.le_of_ble_eq_true rfl) ?_
    refine zg_ireturn zd_Ref_classOf_22 rfl ?_
    subst hQ
    first
      | exact ⟨rfl, rfl, rfl, by rw [if_pos b5, q1 225 (by omega), q1 226 (by omega)], hV1⟩
      | exact ⟨rfl, rfl, rfl, by rw [if_neg b5], hV1⟩
  · refine zg_iconst zd_Ref_classOf_8 ?_
    refine zg_goto (tgt := 22) zd_Ref_classOf_9 (by decide) ?_
    refine zg_ireturn zd_Ref_classOf_22 rfl ?_
    subst hQ
    first
      | exact ⟨rfl, rfl, rfl, by rw [if_pos b5, q1 225 (by omega), q1 226 (by omega)], hV1⟩
      | exact ⟨rfl, rfl, rfl, by rw [if_neg b5], hV1⟩
theorem cr_error {n : Nat} {sr : Nat → Nat} {k : Int} (hk : -2147483648 ≤ k ∧ k < 2147483648) (hI : zr_In V n sr) (hsc : zr_sc V) : zg_S Γ zm_Ref_error 6 0 0 [zg_r Γ 223, zg_i k] zk_K 242 (zk_P sh) V (zq_r zk_K 242 (zk_P sh) (fun rr V' => rr = some (zg_i (if 0 ≤ zr_kv V n sr k then zr_ek V n (sr k.toNat) else -1)) ∧ zr_qq V V')) := by
  obtain ⟨k1, k2, k3, -⟩ := zr_kv_b hI k
  generalize hQ : zq_r zk_K 242 (zk_P sh) (fun rr V' => rr = some (zg_i (if 0 ≤ zr_kv V n sr k then zr_ek V n (sr k.toNat) else -1)) ∧ zr_qq V V') = Q
  refine zg_enter 0 (by decide) (Nat.le_of_ble_eq_true rfl) rfl ?_
  refine zg_al0 zd_Ref_error_0 ?_
  refine zg_il1 zd_Ref_error_1 ?_
  refine zg_cVr1 zd_Ref_error_2 zM_Ref_kind zw_860 zi_Ref_kind zs_Ref_kind (cr_kind hk hI) (by decide) (by decide) (by omega) (by first | assumption | rfl) (by decide) rfl (Nat.le_of_ble_eq_true rfl) ?_
  intro r V1 hq
  obtain ⟨rfl, q1⟩ := hq
  have hV1 := zr_qq_k hsc q1
  have e9 : V1 229 = V 229 := q1 229 (by omega)
  have hT1 : zr_T V1 n := zr_T_fr (fun b _ h => q1 b (by omega)) (by rw [q1 223 (by omega)]) hI.2.2.2.1
  refine zg_if_ge (tgt := 12) zd_Ref_error_5 (by decide) (by omega) (fun b5 => ?_) (fun b5 => ?_)
  · refine zg_al0 zd_Ref_error_12 ?_
    refine zg_al0 zd_Ref_error_13 ?_
    refine zg_getr zd_Ref_error_14 zf_650 (by omega) (by first | assumption | rfl) rfl (by first | assumption | rfl) ?_
    refine zg_il1 zd_Ref_error_17 ?_
    refine zg_iald (j := k.toNat) zd_Ref_error_18 (by omega) rfl (by have := k3 b5; omega) (by have := k3 b5; omega) (by decide) ?_
    rw [e9, (hI.1 k.toNat (by have := k3 b5; omega)).1]
    refine zg_cVp1 zd_Ref_error_19 zM_Ref_errorIn zw_848 zi_Ref_errorIn zs_Ref_errorIn (cr_errorIn (hI.1 k.toNat (by have := k3 b5; omega)).2 hT1) (by decide) (by decide) (by omega) (by first | assumption | rfl) (by decide) rfl (Nat.le_of_ble_eq_true rfl) ?_
    refine zg_ireturn zd_Ref_error_22 rfl ?_
    subst hQ
    first
      | exact ⟨rfl, rfl, rfl, by rw [if_pos b5, q1 225 (by omega), q1 226 (by omega)]; rfl, hV1⟩
      | exact ⟨rfl, rfl, rfl, by rw [if_neg b5], hV1⟩
  · refine zg_iconst zd_Ref_error_8 ?_
    refine zg_goto (tgt := 22) zd_Ref_error_9 (by decide) ?_
    refine zg_ireturn zd_Ref_error_22 rfl ?_
    subst hQ
    first
      | exact ⟨rfl, rfl, rfl, by rw [if_pos b5, q1 225 (by omega), q1 226 (by omega)]; rfl, hV1⟩
      | exact ⟨rfl, rfl, rfl, by rw [if_neg b5], hV1⟩
/-- the answer of rule -/
def zr_rl (kv : Int) (f0 : Nat) (L : List zw_E) (i : Int) : Int := if kv = 2 ∧ 0 ≤ i ∧ i ≤ 2 then (if i = 0 then (f0 : Int) else match L[i.toNat - 1]? with
  | none => -1
  | some e => (e.1 : Int) + 4 * zg_b e.2.2.1 + 8 * e.2.2.2) else -1
theorem cr_rule {n : Nat} {sr ft : Nat → Nat} {k i : Int} (hk : -2147483648 ≤ k ∧ k < 2147483648) (hi : -2147483648 ≤ i ∧ i < 2147483648) (hI : zr_In V n sr) (hF : zr_Fe V ft) (hsc : zr_sc V) : zg_S Γ zm_Ref_rule 6 0 0 [zg_r Γ 223, zg_i k, zg_i i] zk_K 242 (zk_P sh) V (zq_r zk_K 242 (zk_P sh) (fun rr V' => (∀ L, zy_Ls (zr_τ V n) (sr k.toNat) (ft k.toNat) (V 231 k.toNat) 3 L → rr = some (zg_i (zr_rl (zr_kv V n sr k) (ft k.toNat) L i))) ∧ (zr_kv V n sr k ≠ 2 → rr = some (zg_i (-1))) ∧ zr_qq V V')) := by
  obtain ⟨k1, k2, k3, k4⟩ := zr_kv_b hI k
  generalize hQ : zq_r zk_K 242 (zk_P sh) (fun rr V' => (∀ L, zy_Ls (zr_τ V n) (sr k.toNat) (ft k.toNat) (V 231 k.toNat) 3 L → rr = some (zg_i (zr_rl (zr_kv V n sr k) (ft k.toNat) L i))) ∧ (zr_kv V n sr k ≠ 2 → rr = some (zg_i (-1))) ∧ zr_qq V V') = Q
  refine zg_enter 0 (by decide) (Nat.le_of_ble_eq_true rfl) rfl ?_
  have rest : ∀ V1 : zg_V, zv_on (fun b => 236 ≤ b ∧ b ≤ 239) V V1 → zr_kv V n sr k = 2 → 0 ≤ i → i ≤ 2 → zg_G Γ (fun _ => True) zm_Ref_rule (zg_rm 6 0 0) (zg_Ω Γ (Q) 0 0) 0 0 20 [some (zg_r Γ (223)), some (zg_i (k)), some (zg_i (i))] [] zk_K 242 (zk_P sh) (V1) := by
    intro V1 q1 hkv hi0 hi2
    have hV1 := zr_qq_k hsc q1
    have hk32 := k3 (by omega)
    have h3 := k4 hkv
    obtain ⟨κ, hκ⟩ : ∃ κ : Nat, k = (κ : Int) := ⟨k.toNat, by omega⟩
    subst hκ
    rw [show ((κ : Int)).toNat = κ by omega] at *
    obtain ⟨f1, f2, f3⟩ := hF κ (by omega) h3
    obtain ⟨s1, s2⟩ := hI.1 κ (by omega)
    have w9 : V1 229 κ = (sr κ : Int) := by rw [q1 229 (by omega)]; exact s1
    have w0 : V1 230 κ = (ft κ : Int) := by rw [q1 230 (by omega)]; exact f1
    have w1 : V1 231 κ = V 231 κ := by rw [q1 231 (by omega)]
    have hT1 : zr_T V1 n := zr_T_fr (fun b _ h => q1 b (by omega)) (by rw [q1 223 (by omega)]) hI.2.2.2.1
    have hva : zr_va V1 = zr_va V := by unfold zr_va; rw [q1 224 (by omega)]
    have hτ : zr_τ V1 n = zr_τ V n := by
      show (zr_va V1, V1 225, V1 226, n) = (zr_va V, V 225, V 226, n)
      rw [hva, q1 225 (by omega), q1 226 (by omega)]
    have hrl : ∀ L : List zw_E, zr_rl (zr_kv V n sr (κ : Int)) (ft κ) L i = if i = 0 then (ft κ : Int) else match L[i.toNat - 1]? with
      | none => -1
      | some e => (e.1 : Int) + 4 * zg_b e.2.2.1 + 8 * e.2.2.2 := fun L => by unfold zr_rl; rw [if_pos ⟨hkv, hi0, hi2⟩]
    have behind : ∀ (V2 : zg_V) (L : List zw_E), zr_zi V1 V2 → zr_ls V2 L → zy_Ls (zr_τ V n) (sr κ) (ft κ) (V 231 κ) 3 L → ¬ i = 0 → zg_G Γ (fun _ => True) zm_Ref_rule (zg_rm 6 0 0) (zg_Ω Γ (Q) 0 0) 0 0 36 [some (zg_r Γ (223)), some (zg_i (κ)), some (zg_i (i))] [] zk_K 242 (zk_P sh) (V2) := by
      intro V2 L z1 z2 z3 hne
      have hc := z2.1
      have hl := z2.2.1
      have hV2 := zr_qq_z hV1 z1
      have fin : ∀ x : Int, x = zr_rl (zr_kv V n sr (κ : Int)) (ft κ) L i → Q (some (zg_i x)) zk_K 242 (zk_P sh) V2 := fun x hx => by
        subst hQ
        exact ⟨rfl, rfl, rfl, fun L' hL' => by rw [zy_Ls_u hL' z3, hx], fun h => absurd hkv h, hV2⟩
      have far : (L.length : Int) < i → (-1 : Int) = zr_rl (zr_kv V n sr (κ : Int)) (ft κ) L i := fun h => by
        rw [hrl, if_neg hne, List.getElem?_eq_none (by omega)]
      have near : ¬ (L.length : Int) < i → ∃ e, L[i.toNat - 1]? = some e ∧ zr_si V2 (i.toNat - 1) e := fun h => by
        have h1 : L[i.toNat - 1]? = some (L[i.toNat - 1]'(by omega)) := List.getElem?_eq_getElem (by omega)
        exact ⟨_, h1, z2.2.2 _ _ h1⟩
      refine zg_il2 zd_Ref_rule_36 ?_
      refine zg_al0 zd_Ref_rule_37 ?_
      refine zg_geti zd_Ref_rule_38 zf_660 (by omega) (by first | assumption | rfl) rfl ?_
      rw [hc]
      refine zg_icmp_le (tgt := 48) zd_Ref_rule_41 (by decide) (by omega) (by omega) (fun b41 => ?_) (fun b41 => ?_)
      · refine zg_al0 zd_Ref_rule_48 ?_
        refine zg_getr zd_Ref_rule_49 zf_661 (by omega) (by first | assumption | rfl) rfl (by first | assumption | rfl) ?_
        refine zg_il2 zd_Ref_rule_52 ?_
        refine zg_iconst zd_Ref_rule_53 ?_
        refine zg_isub zd_Ref_rule_54 ?_
        refine zg_iald (j := i.toNat - 1) zd_Ref_rule_55 (by omega) rfl (by omega) (by omega) (by decide) ?_
        refine zg_iconst zd_Ref_rule_56 ?_
        refine zg_al0 zd_Ref_rule_57 ?_
        refine zg_getr zd_Ref_rule_58 zf_663 (by omega) (by first | assumption | rfl) rfl (by first | assumption | rfl) ?_
        refine zg_il2 zd_Ref_rule_61 ?_
        refine zg_iconst zd_Ref_rule_62 ?_
        refine zg_isub zd_Ref_rule_63 ?_
        refine zg_iald (j := i.toNat - 1) zd_Ref_rule_64 (by omega) rfl (by omega) (by omega) (by decide) ?_
        refine zg_imul zd_Ref_rule_65 ?_
        refine zg_iadd zd_Ref_rule_66 ?_
        refine zg_bipush zd_Ref_rule_67 (by decide) ?_
        refine zg_al0 zd_Ref_rule_69 ?_
        refine zg_getr zd_Ref_rule_70 zf_664 (by omega) (by first | assumption | rfl) rfl (by first | assumption | rfl) ?_
        refine zg_il2 zd_Ref_rule_73 ?_
        refine zg_iconst zd_Ref_rule_74 ?_
        refine zg_isub zd_Ref_rule_75 ?_
        refine zg_iald (j := i.toNat - 1) zd_Ref_rule_76 (by omega) rfl (by omega) (by omega) (by decide) ?_
        refine zg_imul zd_Ref_rule_77 ?_
        refine zg_iadd zd_Ref_rule_78 ?_
        refine zg_ireturn zd_Ref_rule_79 rfl ?_
        first
        | exact fin _ (far (by omega))
        | (obtain ⟨e, he, g1, -, -, -, g5, g6, -⟩ := near (by omega)
           refine fin _ ?_
           rw [hrl, if_neg hne, he, g1, g5, g6])
      · refine zg_iconst zd_Ref_rule_44 ?_
        refine zg_goto (tgt := 79) zd_Ref_rule_45 (by decide) ?_
        refine zg_ireturn zd_Ref_rule_79 rfl ?_
        first
        | exact fin _ (far (by omega))
        | (obtain ⟨e, he, g1, -, -, -, g5, g6, -⟩ := near (by omega)
           refine fin _ ?_
           rw [hrl, if_neg hne, he, g1, g5, g6])
    refine zg_il2 zd_Ref_rule_20 ?_
    refine zg_if_ne (tgt := 31) zd_Ref_rule_21 (by decide) (by omega) (fun b21 => ?_) (fun b21 => ?_)
    · refine zg_al0 zd_Ref_rule_31 ?_
      refine zg_il1 zd_Ref_rule_32 ?_
      refine zg_cVr1 zd_Ref_rule_33 zM_Ref_standIns zw_828 zi_Ref_standIns zs_Ref_standIns (cr_standIns (by omega) s2 w9 w0 f2 w1 f3 hV1.2.2.2.1 hV1.2.2.2.2 hT1) (by decide) (by decide) (by omega) (by first | assumption | rfl) (by decide) rfl (Nat.le_of_ble_eq_true rfl) ?_
      intro r V2 hq
      obtain ⟨rfl, z1, L, z2, z3⟩ := hq
      exact behind V2 L z1 z2 (by rw [← hτ]; exact z3) (by omega)
    · refine zg_al0 zd_Ref_rule_24 ?_
      refine zg_getr zd_Ref_rule_25 zf_651 (by omega) (by first | assumption | rfl) rfl (by first | assumption | rfl) ?_
      refine zg_il1 zd_Ref_rule_28 ?_
      refine zg_iald (j := κ) zd_Ref_rule_29 (by omega) rfl rfl (by omega) (by decide) ?_
      rw [w0]
      refine zg_ireturn zd_Ref_rule_30 rfl ?_
      subst hQ
      exact ⟨rfl, rfl, rfl, fun L _ => by rw [hrl, if_pos (by omega)], fun h => absurd hkv h, hV1⟩
  refine zg_al0 zd_Ref_rule_0 ?_
  refine zg_il1 zd_Ref_rule_1 ?_
  refine zg_cVr1 zd_Ref_rule_2 zM_Ref_kind zw_860 zi_Ref_kind zs_Ref_kind (cr_kind hk hI) (by decide) (by decide) (by omega) (by first | assumption | rfl) (by decide) rfl (Nat.le_of_ble_eq_true rfl) ?_
  intro r V1 hq
  obtain ⟨rfl, q1⟩ := hq
  refine zg_iconst zd_Ref_rule_5 ?_
  refine zg_icmp_ne (tgt := 18) zd_Ref_rule_6 (by decide) (by omega) (by omega) (fun b6 => ?_) (fun b6 => ?_)
  · refine zg_iconst zd_Ref_rule_18 ?_
    refine zg_ireturn zd_Ref_rule_19 rfl ?_
    subst hQ
    exact ⟨rfl, rfl, rfl, fun L _ => by unfold zr_rl; rw [if_neg (by omega)], fun _ => rfl, zr_qq_k hsc q1⟩
  · refine zg_il2 zd_Ref_rule_9 ?_
    refine zg_if_lt (tgt := 18) zd_Ref_rule_10 (by decide) (by omega) (fun b10 => ?_) (fun b10 => ?_)
    · refine zg_iconst zd_Ref_rule_18 ?_
      refine zg_ireturn zd_Ref_rule_19 rfl ?_
      subst hQ
      exact ⟨rfl, rfl, rfl, fun L _ => by unfold zr_rl; rw [if_neg (by omega)], fun _ => rfl, zr_qq_k hsc q1⟩
    · refine zg_il2 zd_Ref_rule_13 ?_
      refine zg_iconst zd_Ref_rule_14 ?_
      refine zg_icmp_le (tgt := 20) zd_Ref_rule_15 (by decide) (by omega) (by omega) (fun b15 => ?_) (fun b15 => ?_)
      · exact rest V1 q1 (by omega) (by omega) (by omega)
      · refine zg_iconst zd_Ref_rule_18 ?_
        refine zg_ireturn zd_Ref_rule_19 rfl ?_
        subst hQ
        exact ⟨rfl, rfl, rfl, fun L _ => by unfold zr_rl; rw [if_neg (by omega)], fun _ => rfl, zr_qq_k hsc q1⟩
end ZT34

