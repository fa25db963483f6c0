/-! the reference: errors, shape -/
def zr_ek (V : zg_V) (n s : Nat) : Int := zt_w (V 226) s n - zt_ms (V 225) (V 226) s n (zr_ci (zt_ms (V 225) (V 226) s n) 3)
theorem zr_ek_b {V : zg_V} {n : Nat} (hT : zr_T V n) (s : Nat) : 0 ≤ zr_ek V n s ∧ zr_ek V n s ≤ 16 := by
  have h1 := zr_w_16 hT s
  have h2 : 0 ≤ zt_ms (V 225) (V 226) s n (zr_ci (zt_ms (V 225) (V 226) s n) 3) := (zr_w_16 hT _).1
  have h3 : zt_ms (V 225) (V 226) s n (zr_ci (zt_ms (V 225) (V 226) s n) 3) ≤ zt_w (V 226) s n := by
    rw [zt_ms_sum]
    unfold zt_w
    apply zs_sum_le
    intro r hr
    have := hT.2.2.2.2.1 r (by have := hT.2.1; omega)
    cases s.testBit r <;> simp
    split <;> omega
  unfold zr_ek
  omega
section ZT31
variable {Γ : zg_C} {V : zg_V} {sh : Nat}
theorem cr_findErrors {n : Nat} {sr : Nat → Nat} (hsr : ∀ k, k < 32 → V 229 k = (sr k : Int) ∧ sr k < 65536) (hst : ∀ k, k < 32 → 0 ≤ V 228 k ∧ V 228 k ≤ 3) (hT : zr_T V n) : zg_S Γ zm_Ref_findErrors 4 0 0 [zg_r Γ 223] zk_K 242 (zk_P sh) V (zq_r zk_K 242 (zk_P sh) (fun rr V' => rr = none ∧ zv_on (fun b => b = 236) V V' ∧ ∀ k, 1 ≤ k → k < 32 → V' 236 k = if 0 < V 228 k then zr_ek V n (sr k) else 0)) := by
  generalize hQ : zq_r zk_K 242 (zk_P sh) (fun rr V' => rr = none ∧ zv_on (fun b => b = 236) V V' ∧ ∀ k, 1 ≤ k → k < 32 → V' 236 k = if 0 < V 228 k then zr_ek V n (sr k) else 0) = Q
  refine zg_enter 1 (by decide) (Nat.le_of_ble_eq_true rfl) rfl ?_
  refine zg_iconst zd_Ref_findErrors_0 ?_
  refine zg_is1 zd_Ref_findErrors_1 (fun w h => by cases h <;> rfl) (by decide) ?_
  have key : ∀ (j k : Nat) (U : zg_V) (hij : k + j = 32) (hk1 : 1 ≤ k) (hU : zv_on (fun b => b = 236) V U) (hUk : ∀ i, 1 ≤ i → i < k → U 236 i = if 0 < V 228 i then zr_ek V n (sr i) else 0), zg_G Γ (fun _ => True) zm_Ref_findErrors (zg_rm 4 0 0) (zg_Ω Γ (Q) 0 0) 0 0 2 [some (zg_r Γ (223)), some (zg_i ((k : Nat)))] [] zk_K 242 (zk_P sh) (U) := by
    intro j
    induction j with
    | zero =>
      intro k U hij hk1 hU hUk
      have e : k = 32 := by omega
      subst e
      refine zg_il1 zd_Ref_findErrors_2 ?_
      refine zg_bipush zd_Ref_findErrors_3 (by decide) ?_
      refine zg_icmp_ge (tgt := 43) zd_Ref_findErrors_5 (by decide) (by omega) (by omega) (fun b5 => ?_) (fun b5 => ?_)
      · refine zg_return zd_Ref_findErrors_43 rfl ?_
        subst hQ; exact ⟨rfl, rfl, rfl, rfl, hU, hUk⟩
      · omega
    | succ j ih =>
      intro k U hij hk1 hU hUk
      have h228 : U 228 = V 228 := hU 228 (by decide)
      have h229 : U 229 = V 229 := hU 229 (by decide)
      have hTU : zr_T U n := zr_T_fr (fun b _ h => hU b (by omega)) (by rw [hU 223 (by decide)]) hT
      have hs := hst k (by omega)
      obtain ⟨r1, r2⟩ := hsr k (by omega)
      have fin : ∀ x : Int, x = (if 0 < V 228 k then zr_ek V n (sr k) else 0) → zg_G Γ (fun _ => True) zm_Ref_findErrors (zg_rm 4 0 0) (zg_Ω Γ (Q) 0 0) 0 0 2 [some (zg_r Γ (223)), some (zg_i (((k : Nat) : Int) + 1))] [] zk_K 242 (zk_P sh) (zg_u U 236 k x) := fun x hx => ih (k + 1) _ (by omega) (by omega) (fun b hb => by rw [zg_u_out _ _ _ _ hb]; exact hU b hb) (fun i h1 h2 => by
        by_cases e : i = k
        · rw [e, zg_u_in, hx]
        · rw [zg_u_off _ _ _ _ e]; exact hUk i h1 (by omega))
      have hek : zt_w (U 226) (sr k) n - zt_ms (U 225) (U 226) (sr k) n (zr_ci (zt_ms (U 225) (U 226) (sr k) n) 3) = zr_ek V n (sr k) := by
        rw [hU 225 (by decide), hU 226 (by decide)]; rfl
      refine zg_il1 zd_Ref_findErrors_2 ?_
      refine zg_bipush zd_Ref_findErrors_3 (by decide) ?_
      refine zg_icmp_ge (tgt := 43) zd_Ref_findErrors_5 (by decide) (by omega) (by omega) (fun b5 => ?_) (fun b5 => ?_)
      · omega
      · refine zg_al0 zd_Ref_findErrors_8 ?_
        refine zg_getr zd_Ref_findErrors_9 zf_668 (by omega) (by first | assumption | rfl) rfl (by first | assumption | rfl) ?_
        refine zg_il1 zd_Ref_findErrors_12 ?_
        refine zg_al0 zd_Ref_findErrors_13 ?_
        refine zg_getr zd_Ref_findErrors_14 zf_649 (by omega) (by first | assumption | rfl) rfl (by first | assumption | rfl) ?_
        refine zg_il1 zd_Ref_findErrors_17 ?_
        refine zg_iald zd_Ref_findErrors_18 (by omega) (by first | assumption | rfl) rfl (by omega) (by decide) ?_
        rw [h228]
        refine zg_if_le (tgt := 35) zd_Ref_findErrors_19 (by decide) (by omega) (fun b19 => ?_) (fun b19 => ?_)
        · refine zg_iconst zd_Ref_findErrors_35 ?_
          refine zg_iast zd_Ref_findErrors_36 (by omega) (by first | assumption | rfl) rfl (by omega) (by decide) ?_
          refine zg_inc1 zd_Ref_findErrors_37 (fun w h => by cases h <;> rfl) (by decide) ?_
          refine zg_goto (tgt := 2) zd_Ref_findErrors_40 (by decide) ?_
          first
          | exact fin _ (if_pos b19).symm
          | exact fin _ (if_neg b19).symm
          | exact fin _ (if_pos (by omega)).symm
          | exact fin _ (if_neg (by omega)).symm
        · refine zg_al0 zd_Ref_findErrors_22 ?_
          refine zg_al0 zd_Ref_findErrors_23 ?_
          refine zg_getr zd_Ref_findErrors_24 zf_650 (by omega) (by first | assumption | rfl) rfl (by first | assumption | rfl) ?_
          refine zg_il1 zd_Ref_findErrors_27 ?_
          refine zg_iald zd_Ref_findErrors_28 (by omega) (by first | assumption | rfl) rfl (by omega) (by decide) ?_
          rw [h229, r1]
          refine zg_cVp1 zd_Ref_findErrors_29 zM_Ref_errorIn zw_848 zi_Ref_errorIn zs_Ref_errorIn (cr_errorIn r2 hTU) (by decide) (by decide) (by omega) (by first | assumption | rfl) (by decide) rfl (Nat.le_of_ble_eq_true rfl) ?_
          rw [hek]
          refine zg_goto (tgt := 36) zd_Ref_findErrors_32 (by decide) ?_
          refine zg_iast zd_Ref_findErrors_36 (by omega) (by first | assumption | rfl) rfl (by omega) (by decide) ?_
          refine zg_inc1 zd_Ref_findErrors_37 (fun w h => by cases h <;> rfl) (by decide) ?_
          refine zg_goto (tgt := 2) zd_Ref_findErrors_40 (by decide) ?_
          first
          | exact fin _ (if_pos b19).symm
          | exact fin _ (if_neg b19).symm
          | exact fin _ (if_pos (by omega)).symm
          | exact fin _ (if_neg (by omega)).symm
  exact key 31 1 V (by omega) (by omega) (fun b _ => rfl) (fun i h1 h2 => by omega)
theorem cr_shape {p q : Int} {S : Nat → Bool} (hS : ∀ k, S k = true ↔ V 228 k = 3) (hS16 : ∀ k, k < 32 → V 228 k = 3 → k < 16) (hst : ∀ k, k < 32 → 0 ≤ V 228 k ∧ V 228 k ≤ 3) (he : ∀ k, 1 ≤ k → k < 32 → 0 ≤ V 236 k ∧ V 236 k ≤ 16) (hp : 0 ≤ p ∧ p ≤ 1000000) (hq : 0 ≤ q ∧ q ≤ 1000000) : zg_S Γ zm_Ref_shape 1 0 0 [zg_r Γ 223, zg_i p, zg_i q] zk_K 242 (zk_P sh) V (zq_r zk_K 242 (zk_P sh) (fun rr V' => rr = some (zg_i (zc_L (V 236) S p q 1)) ∧ zv_on (fun b => 237 ≤ b ∧ b ≤ 239) V V' ∧ ∀ k, 1 ≤ k → k < 32 → V' 239 k = zg_b (zc_kb (V 236) S p q k) ∧ V' 237 k = zc_C (V 236) S p q k ∧ V' 238 k = zc_L (V 236) S p q k)) := by
  have hm : ∀ k, 1 ≤ k → k < 32 → 0 ≤ V 236 k * q ∧ V 236 k * q ≤ 16000000 := fun k h1 h2 => by
    have := he k h1 h2
    refine ⟨Int.mul_nonneg this.1 hq.1, ?_⟩
    have h3 : V 236 k * q ≤ 16 * q := Int.mul_le_mul_of_nonneg_right this.2 hq.1
    omega
  generalize hQ : zq_r zk_K 242 (zk_P sh) (fun rr V' => rr = some (zg_i (zc_L (V 236) S p q 1)) ∧ zv_on (fun b => 237 ≤ b ∧ b ≤ 239) V V' ∧ ∀ k, 1 ≤ k → k < 32 → V' 239 k = zg_b (zc_kb (V 236) S p q k) ∧ V' 237 k = zc_C (V 236) S p q k ∧ V' 238 k = zc_L (V 236) S p q k) = Q
  refine zg_enter 3 (by decide) (Nat.le_of_ble_eq_true rfl) rfl ?_
  refine zg_bipush (n := ((31 : Nat) : Int)) zd_Ref_shape_0 (by decide) ?_
  refine zg_is3 zd_Ref_shape_2 (fun w h => by cases h <;> rfl) (by decide) ?_
  have key : ∀ (k : Nat) (U : zg_V) (o4 o5 : Option Value) (hk : k < 32) (hU : zv_on (fun b => 237 ≤ b ∧ b ≤ 239) V U) (hUk : ∀ i, k < i → i < 32 → (0 ≤ zc_C (V 236) S p q i) ∧ U 239 i = zg_b (zc_kb (V 236) S p q i) ∧ U 237 i = zc_C (V 236) S p q i ∧ U 238 i = zc_L (V 236) S p q i), zg_G Γ (fun _ => True) zm_Ref_shape (zg_rm 1 0 0) (zg_Ω Γ (Q) 0 0) 0 0 3 [some (zg_r Γ (223)), some (zg_i (p)), some (zg_i (q)), some (zg_i ((k : Nat))), o4, o5] [] zk_K 242 (zk_P sh) (U) := by
    intro k
    induction k with
    | zero =>
      intro U o4 o5 hk hU hUk
      have h1 := (hUk 1 (by omega) (by omega)).2.2.2
      refine zg_il3 zd_Ref_shape_3 ?_
      refine zg_if_le (tgt := 151) zd_Ref_shape_4 (by decide) (by omega) (fun b4 => ?_) (fun b4 => ?_)
      · refine zg_al0 zd_Ref_shape_151 ?_
        refine zg_getr zd_Ref_shape_152 zf_670 (by omega) (by first | assumption | rfl) rfl (by first | assumption | rfl) ?_
        refine zg_iconst zd_Ref_shape_155 ?_
        refine zg_iald (j := 1) zd_Ref_shape_156 (by omega) rfl rfl (by decide) (by decide) ?_
        rw [h1]
        refine zg_ireturn zd_Ref_shape_157 rfl ?_
        subst hQ; exact ⟨rfl, rfl, rfl, rfl, hU, fun k h1 h2 => (hUk k (by omega) h2).2⟩
      · omega
    | succ k ih =>
      intro U o4 o5 hk hU hUk
      generalize hK : k + 1 = κ at *
      have hmk := hm κ (by omega) hk
      have hek := he κ (by omega) hk
      have hsk := hst κ hk
      have h228 : U 228 = V 228 := hU 228 (by omega)
      have h236 : U 236 = V 236 := hU 236 (by omega)
      have ec : (κ : Int) + -1 = (k : Int) := by omega
      generalize hY : V 236 κ * q + p = Y
      -- what is left to do once it is known whether the node stays
      have fin : ∀ (x y : Int), (zc_kb (V 236) S p q κ = true → x = zc_C (V 236) S p q (2 * κ) + zc_C (V 236) S p q (2 * κ + 1) ∧ y = zc_L (V 236) S p q (2 * κ) + zc_L (V 236) S p q (2 * κ + 1) ∧ 0 ≤ x) → (zc_kb (V 236) S p q κ = false → x = Y ∧ y = 1) → ∀ z, z = zg_b (zc_kb (V 236) S p q κ) → ∀ o4 o5, zg_G Γ (fun _ => True) zm_Ref_shape (zg_rm 1 0 0) (zg_Ω Γ (Q) 0 0) 0 0 3 [some (zg_r Γ (223)), some (zg_i (p)), some (zg_i (q)), some (zg_i ((k : Nat))), o4, o5] [] zk_K 242 (zk_P sh) (zg_u (zg_u (zg_u U 239 κ z) 237 κ x) 238 κ y) := by
        intro x y ht hf z hz o4 o5
        refine ih _ o4 o5 (by omega) (fun b hb => ?_) (fun i h1 h2 => ?_)
        · rw [zg_u_out _ _ _ _ (by omega), zg_u_out _ _ _ _ (by omega), zg_u_out _ _ _ _ (by omega)]
          exact hU b hb
        · by_cases e : i = κ
          · subst e
            have a1 : zg_u (zg_u (zg_u U 239 i z) 237 i x) 238 i y 239 i = z := by rw [zg_u_out _ _ _ _ (by decide), zg_u_out _ _ _ _ (by decide), zg_u_in]
            have a2 : zg_u (zg_u (zg_u U 239 i z) 237 i x) 238 i y 237 i = x := by rw [zg_u_out _ _ _ _ (by decide), zg_u_in]
            have a3 : zg_u (zg_u (zg_u U 239 i z) 237 i x) 238 i y 238 i = y := by rw [zg_u_in]
            rw [a1, a2, a3]
            cases hb : zc_kb (V 236) S p q i with
            | true =>
              obtain ⟨t1, t2, t3⟩ := ht hb
              have hkk := zc_kb_iff.mp hb
              rw [zc_C_k hkk, zc_L_k hkk, ← t1, ← t2]
              exact ⟨t3, by rw [hz, hb], rfl, rfl⟩
            | false =>
              obtain ⟨t1, t2⟩ := hf hb
              have hkk : ¬ zc_k (V 236) S p q i := fun h => by rw [zc_kb_iff.mpr h] at hb; cases hb
              rw [zc_C_n hkk, zc_L_n hkk, hY]
              exact ⟨by omega, by rw [hz, hb], t1, t2⟩
          · have a1 : zg_u (zg_u (zg_u U 239 κ z) 237 κ x) 238 κ y 239 i = U 239 i := by rw [zg_u_out _ _ _ _ (by decide), zg_u_out _ _ _ _ (by decide), zg_u_off _ _ _ _ e]
            have a2 : zg_u (zg_u (zg_u U 239 κ z) 237 κ x) 238 κ y 237 i = U 237 i := by rw [zg_u_out _ _ _ _ (by decide), zg_u_off _ _ _ _ e, zg_u_out _ _ _ _ (by decide)]
            have a3 : zg_u (zg_u (zg_u U 239 κ z) 237 κ x) 238 κ y 238 i = U 238 i := by rw [zg_u_off _ _ _ _ e, zg_u_out _ _ _ _ (by decide), zg_u_out _ _ _ _ (by decide)]
            rw [a1, a2, a3]
            exact hUk i (by omega) h2
      have rd : ∀ z, zg_u U 239 κ z 239 κ = z := fun z => zg_u_in _ _ _ _
      have no : zc_kb (V 236) S p q κ = false → zg_G Γ (fun _ => True) zm_Ref_shape (zg_rm 1 0 0) (zg_Ω Γ (Q) 0 0) 0 0 68 [some (zg_r Γ (223)), some (zg_i (p)), some (zg_i (q)), some (zg_i (κ)), some (zg_l (Y)), none] [] zk_K 242 (zk_P sh) (zg_u U 239 κ 0) := by
        intro hb
        have f := fin Y 1 (fun h => by rw [hb] at h; cases h) (fun _ => ⟨rfl, rfl⟩) 0 (by rw [hb]; rfl)
        have rd2 : zg_u (zg_u U 239 κ 0) 237 κ Y 239 κ = 0 := by rw [zg_u_out _ _ _ _ (by decide), zg_u_in]
        refine zg_al0 zd_Ref_shape_68 ?_
        refine zg_getr zd_Ref_shape_69 zf_669 (by omega) (by first | assumption | rfl) rfl (by first | assumption | rfl) ?_
        refine zg_il3 zd_Ref_shape_72 ?_
        refine zg_al0 zd_Ref_shape_73 ?_
        refine zg_getr zd_Ref_shape_74 zf_671 (by omega) (by first | assumption | rfl) rfl (by first | assumption | rfl) ?_
        refine zg_il3 zd_Ref_shape_77 ?_
        refine zg_zald zd_Ref_shape_78 (by omega) (by first | assumption | rfl) rfl (by omega) (by decide) ?_
        rw [rd]
        refine zg_if_eq (tgt := 104) zd_Ref_shape_79 (by decide) (by omega) (fun b79 => ?_) (fun b79 => ?_)
        · refine zg_ll4 zd_Ref_shape_104 ?_
          refine zg_last zd_Ref_shape_106 (by omega) (by first | assumption | rfl) rfl (by omega) (by decide) ?_
          refine zg_al0 zd_Ref_shape_107 ?_
          refine zg_getr zd_Ref_shape_108 zf_670 (by omega) (by first | assumption | rfl) rfl (by first | assumption | rfl) ?_
          refine zg_il3 zd_Ref_shape_111 ?_
          refine zg_al0 zd_Ref_shape_112 ?_
          refine zg_getr zd_Ref_shape_113 zf_671 (by omega) (by first | assumption | rfl) rfl (by first | assumption | rfl) ?_
          refine zg_il3 zd_Ref_shape_116 ?_
          refine zg_zald zd_Ref_shape_117 (by omega) (by first | assumption | rfl) rfl (by omega) (by decide) ?_
          rw [rd2]
          refine zg_if_eq (tgt := 143) zd_Ref_shape_118 (by decide) (by omega) (fun b118 => ?_) (fun b118 => ?_)
          · refine zg_iconst zd_Ref_shape_143 ?_
            refine zg_iast zd_Ref_shape_144 (by omega) (by first | assumption | rfl) rfl (by omega) (by decide) ?_
            refine zg_inc3 zd_Ref_shape_145 (fun w h => by cases h <;> rfl) (by decide) ?_
            rw [ec]
            refine zg_goto (tgt := 3) zd_Ref_shape_148 (by decide) ?_
            exact f _ _
          · omega
        · omega
      have yes : zc_kb (V 236) S p q κ = true → κ < 16 → zg_G Γ (fun _ => True) zm_Ref_shape (zg_rm 1 0 0) (zg_Ω Γ (Q) 0 0) 0 0 68 [some (zg_r Γ (223)), some (zg_i (p)), some (zg_i (q)), some (zg_i (κ)), some (zg_l (Y)), none] [] zk_K 242 (zk_P sh) (zg_u U 239 κ 1) := by
        intro hb h16
        obtain ⟨n1, -, c1, l1⟩ := hUk (2 * κ) (by omega) (by omega)
        obtain ⟨n2, -, c2, l2⟩ := hUk (2 * κ + 1) (by omega) (by omega)
        have f := fin _ _ (fun _ => ⟨rfl, rfl, by omega⟩) (fun h => by rw [hb] at h; cases h) 1 (by rw [hb]; rfl)
        have r1 : zg_u U 239 κ 1 237 (2 * κ) = zc_C (V 236) S p q (2 * κ) := by rw [zg_u_out _ _ _ _ (by decide), c1]
        have r2 : zg_u U 239 κ 1 237 (2 * κ + 1) = zc_C (V 236) S p q (2 * κ + 1) := by rw [zg_u_out _ _ _ _ (by decide), c2]
        have rd2 : ∀ x, zg_u (zg_u U 239 κ 1) 237 κ x 239 κ = 1 := fun x => by rw [zg_u_out _ _ _ _ (by decide), zg_u_in]
        have r3 : ∀ x, zg_u (zg_u U 239 κ 1) 237 κ x 238 (2 * κ) = zc_L (V 236) S p q (2 * κ) := fun x => by rw [zg_u_out _ _ _ _ (by decide), zg_u_out _ _ _ _ (by decide), l1]
        have r4 : ∀ x, zg_u (zg_u U 239 κ 1) 237 κ x 238 (2 * κ + 1) = zc_L (V 236) S p q (2 * κ + 1) := fun x => by rw [zg_u_out _ _ _ _ (by decide), zg_u_out _ _ _ _ (by decide), l2]
        refine zg_al0 zd_Ref_shape_68 ?_
        refine zg_getr zd_Ref_shape_69 zf_669 (by omega) (by first | assumption | rfl) rfl (by first | assumption | rfl) ?_
        refine zg_il3 zd_Ref_shape_72 ?_
        refine zg_al0 zd_Ref_shape_73 ?_
        refine zg_getr zd_Ref_shape_74 zf_671 (by omega) (by first | assumption | rfl) rfl (by first | assumption | rfl) ?_
        refine zg_il3 zd_Ref_shape_77 ?_
        refine zg_zald zd_Ref_shape_78 (by omega) (by first | assumption | rfl) rfl (by omega) (by decide) ?_
        rw [rd]
        refine zg_if_eq (tgt := 104) zd_Ref_shape_79 (by decide) (by omega) (fun b79 => ?_) (fun b79 => ?_)
        · omega
        · refine zg_al0 zd_Ref_shape_82 ?_
          refine zg_getr zd_Ref_shape_83 zf_669 (by omega) (by first | assumption | rfl) rfl (by first | assumption | rfl) ?_
          refine zg_iconst zd_Ref_shape_86 ?_
          refine zg_il3 zd_Ref_shape_87 ?_
          refine zg_imul zd_Ref_shape_88 ?_
          refine zg_lald (j := 2 * κ) zd_Ref_shape_89 (by omega) rfl (by omega) (by omega) (by decide) ?_
          rw [r1]
          refine zg_al0 zd_Ref_shape_90 ?_
          refine zg_getr zd_Ref_shape_91 zf_669 (by omega) (by first | assumption | rfl) rfl (by first | assumption | rfl) ?_
          refine zg_iconst zd_Ref_shape_94 ?_
          refine zg_il3 zd_Ref_shape_95 ?_
          refine zg_imul zd_Ref_shape_96 ?_
          refine zg_iconst zd_Ref_shape_97 ?_
          refine zg_iadd zd_Ref_shape_98 ?_
          refine zg_lald (j := 2 * κ + 1) zd_Ref_shape_99 (by omega) rfl (by omega) (by omega) (by decide) ?_
          rw [r2]
          refine zg_ladd zd_Ref_shape_100 ?_
          refine zg_goto (tgt := 106) zd_Ref_shape_101 (by decide) ?_
          refine zg_last zd_Ref_shape_106 (by omega) (by first | assumption | rfl) rfl (by omega) (by decide) ?_
          refine zg_al0 zd_Ref_shape_107 ?_
          refine zg_getr zd_Ref_shape_108 zf_670 (by omega) (by first | assumption | rfl) rfl (by first | assumption | rfl) ?_
          refine zg_il3 zd_Ref_shape_111 ?_
          refine zg_al0 zd_Ref_shape_112 ?_
          refine zg_getr zd_Ref_shape_113 zf_671 (by omega) (by first | assumption | rfl) rfl (by first | assumption | rfl) ?_
          refine zg_il3 zd_Ref_shape_116 ?_
          refine zg_zald zd_Ref_shape_117 (by omega) (by first | assumption | rfl) rfl (by omega) (by decide) ?_
          rw [rd2]
          refine zg_if_eq (tgt := 143) zd_Ref_shape_118 (by decide) (by omega) (fun b118 => ?_) (fun b118 => ?_)
          · omega
          · refine zg_al0 zd_Ref_shape_121 ?_
            refine zg_getr zd_Ref_shape_122 zf_670 (by omega) (by first | assumption | rfl) rfl (by first | assumption | rfl) ?_
            refine zg_iconst zd_Ref_shape_125 ?_
            refine zg_il3 zd_Ref_shape_126 ?_
            refine zg_imul zd_Ref_shape_127 ?_
            refine zg_iald (j := 2 * κ) zd_Ref_shape_128 (by omega) rfl (by omega) (by omega) (by decide) ?_
            rw [r3]
            refine zg_al0 zd_Ref_shape_129 ?_
            refine zg_getr zd_Ref_shape_130 zf_670 (by omega) (by first | assumption | rfl) rfl (by first | assumption | rfl) ?_
            refine zg_iconst zd_Ref_shape_133 ?_
            refine zg_il3 zd_Ref_shape_134 ?_
            refine zg_imul zd_Ref_shape_135 ?_
            refine zg_iconst zd_Ref_shape_136 ?_
            refine zg_iadd zd_Ref_shape_137 ?_
            refine zg_iald (j := 2 * κ + 1) zd_Ref_shape_138 (by omega) rfl (by omega) (by omega) (by decide) ?_
            rw [r4]
            refine zg_iadd zd_Ref_shape_139 ?_
            refine zg_goto (tgt := 144) zd_Ref_shape_140 (by decide) ?_
            refine zg_iast zd_Ref_shape_144 (by omega) (by first | assumption | rfl) rfl (by omega) (by decide) ?_
            refine zg_inc3 zd_Ref_shape_145 (fun w h => by cases h <;> rfl) (by decide) ?_
            rw [ec]
            refine zg_goto (tgt := 3) zd_Ref_shape_148 (by decide) ?_
            exact f _ _
      by_cases h3 : V 228 κ = 3
      · have h16 := hS16 κ hk h3
        obtain ⟨n1, -, c1, l1⟩ := hUk (2 * κ) (by omega) (by omega)
        obtain ⟨n2, -, c2, l2⟩ := hUk (2 * κ + 1) (by omega) (by omega)
        have u1 : zc_C (V 236) S p q (2 * κ) ≤ V 236 (2 * κ) * q + p := zc_C_le
        have u2 : zc_C (V 236) S p q (2 * κ + 1) ≤ V 236 (2 * κ + 1) * q + p := zc_C_le
        have m1 := hm (2 * κ) (by omega) (by omega)
        have m2 := hm (2 * κ + 1) (by omega) (by omega)
        have hkb : zc_kb (V 236) S p q κ = decide (zc_C (V 236) S p q (2 * κ) + zc_C (V 236) S p q (2 * κ + 1) < Y) := by
          unfold zc_kb
          rw [(hS κ).mpr h3, decide_eq_true (show 1 ≤ κ ∧ κ < 32 by omega), hY]
          rfl
        generalize hA : zc_C (V 236) S p q (2 * κ) + zc_C (V 236) S p q (2 * κ + 1) = A at *
        have hc1 : zg_cmp A Y = 1 ∨ zg_cmp A Y = 0 ∨ zg_cmp A Y = -1 := by unfold zg_cmp; split <;> (try split) <;> simp
        have hc2 : (0 ≤ zg_cmp A Y ↔ ¬ A < Y) := by unfold zg_cmp; split <;> (try split) <;> omega
        refine zg_il3 zd_Ref_shape_3 ?_
        refine zg_if_le (tgt := 151) zd_Ref_shape_4 (by decide) (by omega) (fun b4 => ?_) (fun b4 => ?_)
        · omega
        · refine zg_al0 zd_Ref_shape_7 ?_
          refine zg_getr zd_Ref_shape_8 zf_668 (by omega) (by first | assumption | rfl) rfl (by first | assumption | rfl) ?_
          refine zg_il3 zd_Ref_shape_11 ?_
          refine zg_iald zd_Ref_shape_12 (by omega) (by first | assumption | rfl) rfl (by omega) (by decide) ?_
          rw [h236]
          refine zg_i2l zd_Ref_shape_13 (by omega) ?_
          refine zg_il2 zd_Ref_shape_14 ?_
          refine zg_i2l zd_Ref_shape_15 (by omega) ?_
          refine zg_lmul zd_Ref_shape_16 ?_
          refine zg_il1 zd_Ref_shape_17 ?_
          refine zg_i2l zd_Ref_shape_18 (by omega) ?_
          refine zg_ladd zd_Ref_shape_19 ?_
          rw [hY]
          refine zg_ls4 zd_Ref_shape_20 (fun w h => by cases h <;> rfl) (by decide) ?_
          refine zg_al0 zd_Ref_shape_22 ?_
          refine zg_getr zd_Ref_shape_23 zf_671 (by omega) (by first | assumption | rfl) rfl (by first | assumption | rfl) ?_
          refine zg_il3 zd_Ref_shape_26 ?_
          refine zg_al0 zd_Ref_shape_27 ?_
          refine zg_getr zd_Ref_shape_28 zf_649 (by omega) (by first | assumption | rfl) rfl (by first | assumption | rfl) ?_
          refine zg_il3 zd_Ref_shape_31 ?_
          refine zg_iald zd_Ref_shape_32 (by omega) (by first | assumption | rfl) rfl (by omega) (by decide) ?_
          rw [h228]
          refine zg_iconst zd_Ref_shape_33 ?_
          refine zg_icmp_ne (tgt := 66) zd_Ref_shape_34 (by decide) (by omega) (by omega) (fun b34 => ?_) (fun b34 => ?_)
          · refine zg_iconst zd_Ref_shape_66 ?_
            refine zg_zast zd_Ref_shape_67 (by omega) (by first | assumption | rfl) rfl (by omega) (by decide) (by omega) ?_
            first
            | (exfalso; omega)
            | (have hlt : A < Y := by omega
               exact yes (by rw [hkb]; exact decide_eq_true hlt) h16)
            | (have hlt : ¬ A < Y := by omega
               exact no (by rw [hkb]; exact decide_eq_false hlt))
          · refine zg_al0 zd_Ref_shape_37 ?_
            refine zg_getr zd_Ref_shape_38 zf_669 (by omega) (by first | assumption | rfl) rfl (by first | assumption | rfl) ?_
            refine zg_iconst zd_Ref_shape_41 ?_
            refine zg_il3 zd_Ref_shape_42 ?_
            refine zg_imul zd_Ref_shape_43 ?_
            refine zg_lald (j := 2 * κ) zd_Ref_shape_44 (by omega) rfl (by omega) (by omega) (by decide) ?_
            rw [c1]
            refine zg_al0 zd_Ref_shape_45 ?_
            refine zg_getr zd_Ref_shape_46 zf_669 (by omega) (by first | assumption | rfl) rfl (by first | assumption | rfl) ?_
            refine zg_iconst zd_Ref_shape_49 ?_
            refine zg_il3 zd_Ref_shape_50 ?_
            refine zg_imul zd_Ref_shape_51 ?_
            refine zg_iconst zd_Ref_shape_52 ?_
            refine zg_iadd zd_Ref_shape_53 ?_
            refine zg_lald (j := 2 * κ + 1) zd_Ref_shape_54 (by omega) rfl (by omega) (by omega) (by decide) ?_
            rw [c2]
            refine zg_ladd zd_Ref_shape_55 ?_
            rw [hA]
            refine zg_ll4 zd_Ref_shape_56 ?_
            refine zg_lcmp zd_Ref_shape_58 (by omega) (by omega) ?_
            refine zg_if_ge (tgt := 66) zd_Ref_shape_59 (by decide) (by omega) (fun b59 => ?_) (fun b59 => ?_)
            · refine zg_iconst zd_Ref_shape_66 ?_
              refine zg_zast zd_Ref_shape_67 (by omega) (by first | assumption | rfl) rfl (by omega) (by decide) (by omega) ?_
              first
              | (exfalso; omega)
              | (have hlt : A < Y := by omega
                 exact yes (by rw [hkb]; exact decide_eq_true hlt) h16)
              | (have hlt : ¬ A < Y := by omega
                 exact no (by rw [hkb]; exact decide_eq_false hlt))
            · refine zg_iconst zd_Ref_shape_62 ?_
              refine zg_goto (tgt := 67) zd_Ref_shape_63 (by decide) ?_
              refine zg_zast zd_Ref_shape_67 (by omega) (by first | assumption | rfl) rfl (by omega) (by decide) (by omega) ?_
              first
              | (exfalso; omega)
              | (have hlt : A < Y := by omega
                 exact yes (by rw [hkb]; exact decide_eq_true hlt) h16)
              | (have hlt : ¬ A < Y := by omega
                 exact no (by rw [hkb]; exact decide_eq_false hlt))
      · have hkb : zc_kb (V 236) S p q κ = false := by
          unfold zc_kb
          have : S κ = false := by
            cases h : S κ
            · rfl
            · exact absurd ((hS κ).mp h) h3
          rw [this, Bool.false_and, Bool.and_false]
        refine zg_il3 zd_Ref_shape_3 ?_
        refine zg_if_le (tgt := 151) zd_Ref_shape_4 (by decide) (by omega) (fun b4 => ?_) (fun b4 => ?_)
        · omega
        · refine zg_al0 zd_Ref_shape_7 ?_
          refine zg_getr zd_Ref_shape_8 zf_668 (by omega) (by first | assumption | rfl) rfl (by first | assumption | rfl) ?_
          refine zg_il3 zd_Ref_shape_11 ?_
          refine zg_iald zd_Ref_shape_12 (by omega) (by first | assumption | rfl) rfl (by omega) (by decide) ?_
          rw [h236]
          refine zg_i2l zd_Ref_shape_13 (by omega) ?_
          refine zg_il2 zd_Ref_shape_14 ?_
          refine zg_i2l zd_Ref_shape_15 (by omega) ?_
          refine zg_lmul zd_Ref_shape_16 ?_
          refine zg_il1 zd_Ref_shape_17 ?_
          refine zg_i2l zd_Ref_shape_18 (by omega) ?_
          refine zg_ladd zd_Ref_shape_19 ?_
          rw [hY]
          refine zg_ls4 zd_Ref_shape_20 (fun w h => by cases h <;> rfl) (by decide) ?_
          refine zg_al0 zd_Ref_shape_22 ?_
          refine zg_getr zd_Ref_shape_23 zf_671 (by omega) (by first | assumption | rfl) rfl (by first | assumption | rfl) ?_
          refine zg_il3 zd_Ref_shape_26 ?_
          refine zg_al0 zd_Ref_shape_27 ?_
          refine zg_getr zd_Ref_shape_28 zf_649 (by omega) (by first | assumption | rfl) rfl (by first | assumption | rfl) ?_
          refine zg_il3 zd_Ref_shape_31 ?_
          refine zg_iald zd_Ref_shape_32 (by omega) (by first | assumption | rfl) rfl (by omega) (by decide) ?_
          rw [h228]
          refine zg_iconst zd_Ref_shape_33 ?_
          refine zg_icmp_ne (tgt := 66) zd_Ref_shape_34 (by decide) (by omega) (by omega) (fun b34 => ?_) (fun b34 => ?_)
          · refine zg_iconst zd_Ref_shape_66 ?_
            refine zg_zast zd_Ref_shape_67 (by omega) (by first | assumption | rfl) rfl (by omega) (by decide) (by omega) ?_
            exact no hkb
          · omega
  exact key 31 V _ _ (by omega) (fun b _ => rfl) (fun i h1 h2 => by omega)
end ZT31

