/-! the reference: lowest terms, breaks, insert -/
def zr_lw (p q : Nat) : Nat → Bool
  | 0 => true
  | m + 1 => zr_lw p q m && !(decide (p % (m + 2) = 0) && decide (q % (m + 2) = 0))
theorem zr_lw_s (p q m : Nat) : zr_lw p q (m + 1) = (zr_lw p q m && !(decide (p % (m + 2) = 0) && decide (q % (m + 2) = 0))) := rfl
theorem zr_lw_gcd : ∀ p, p < 17 → ∀ q, q < 16 → 1 ≤ p → 1 ≤ q → zr_lw p q 15 = decide (Nat.gcd p q = 1) := by decide +kernel
section ZT32
variable {Γ : zg_C} {V : zg_V} {sh : Nat} {K : zg_K} {N : Nat} {P : zg_P}
theorem cr_lowest {p q : Nat} (hp : p < 17) (hq : q < 16) : zg_S Γ zm_Ref_lowest 0 0 0 [zg_i p, zg_i q] zk_K 242 (zk_P sh) V (zq_p zk_K 242 (zk_P sh) V (some (zg_i (zg_b (zr_lw p q 15))))) := by
  generalize hQ : zq_p zk_K 242 (zk_P sh) V (some (zg_i (zg_b (zr_lw p q 15)))) = Q
  refine zg_enter 2 (by decide) (Nat.le_of_ble_eq_true rfl) rfl ?_
  refine zg_iconst zd_Ref_lowest_0 ?_
  refine zg_is2 zd_Ref_lowest_1 (fun w h => by cases h <;> rfl) (by decide) ?_
  refine zg_iconst zd_Ref_lowest_2 ?_
  refine zg_is3 zd_Ref_lowest_3 (fun w h => by cases h <;> rfl) (by decide) ?_
  have key : ∀ (j m : Nat) (hij : m + j = 15), zg_G Γ (fun _ => True) zm_Ref_lowest (zg_rm 0 0 0) (zg_Ω Γ (Q) 0 0) 0 0 4 [some (zg_i (p)), some (zg_i (q)), some (zg_i (zg_b (zr_lw p q m))), some (zg_i (((m : Nat) : Int) + 2))] [] zk_K 242 (zk_P sh) (V) := by
    intro j
    induction j with
    | zero =>
      intro m hij
      have e : m = 15 := by omega
      subst e
      refine zg_il3 zd_Ref_lowest_4 ?_
      refine zg_bipush zd_Ref_lowest_5 (by decide) ?_
      refine zg_icmp_gt (tgt := 38) zd_Ref_lowest_7 (by decide) (by omega) (by omega) (fun b7 => ?_) (fun b7 => ?_)
      · refine zg_il2 zd_Ref_lowest_38 ?_
        refine zg_zreturn zd_Ref_lowest_39 rfl (zg_b01 _) ?_
        subst hQ; exact ⟨rfl, rfl, rfl, rfl, rfl⟩
      · omega
    | succ j ih =>
      intro m hij
      have ih := ih (m + 1) (by omega)
      rw [zr_lw_s] at ih
      have ec : ((m + 1 : Nat) : Int) + 2 = ((m : Nat) : Int) + 2 + 1 := by omega
      rw [ec] at ih
      have c1 : zr_lw p q m = false → (zr_lw p q m && !(decide (p % (m + 2) = 0) && decide (q % (m + 2) = 0))) = false := fun h => by rw [h]; rfl
      have c2 : zr_lw p q m = true → ¬ p % (m + 2) = 0 → (zr_lw p q m && !(decide (p % (m + 2) = 0) && decide (q % (m + 2) = 0))) = true := fun h h1 => by rw [h, decide_eq_false h1]; rfl
      have c3 : zr_lw p q m = true → p % (m + 2) = 0 → q % (m + 2) = 0 → (zr_lw p q m && !(decide (p % (m + 2) = 0) && decide (q % (m + 2) = 0))) = false := fun h h1 h2 => by rw [h, decide_eq_true h1, decide_eq_true h2]; rfl
      have c4 : zr_lw p q m = true → ¬ q % (m + 2) = 0 → (zr_lw p q m && !(decide (p % (m + 2) = 0) && decide (q % (m + 2) = 0))) = true := fun h h1 => by rw [h, decide_eq_false h1, Bool.and_false]; rfl
      have r1 : (p : Int) % ((m : Int) + 2) = ((p % (m + 2) : Nat) : Int) := by rw [show (m : Int) + 2 = ((m + 2 : Nat) : Int) by omega]; rfl
      have r2 : (q : Int) % ((m : Int) + 2) = ((q % (m + 2) : Nat) : Int) := by rw [show (m : Int) + 2 = ((m + 2 : Nat) : Int) by omega]; rfl
      have l1 : p % (m + 2) < 17 := by have := Nat.mod_lt p (show m + 2 > 0 by omega); omega
      have l2 : q % (m + 2) < 17 := by have := Nat.mod_lt q (show m + 2 > 0 by omega); omega
      refine zg_il3 zd_Ref_lowest_4 ?_
      refine zg_bipush zd_Ref_lowest_5 (by decide) ?_
      refine zg_icmp_gt (tgt := 38) zd_Ref_lowest_7 (by decide) (by omega) (by omega) (fun b7 => ?_) (fun b7 => ?_)
      · omega
      · refine zg_il2 zd_Ref_lowest_10 ?_
        refine zg_if_eqB (tgt := 30) zd_Ref_lowest_11 (by decide) (fun b11 => ?_) (fun b11 => ?_)
        · refine zg_iconst zd_Ref_lowest_30 ?_
          refine zg_is2 zd_Ref_lowest_31 (fun w h => by cases h <;> rfl) (by decide) ?_
          refine zg_inc3 zd_Ref_lowest_32 (fun w h => by cases h <;> rfl) (by decide) ?_
          refine zg_goto (tgt := 4) zd_Ref_lowest_35 (by decide) ?_
          first
          | (rw [c1 b11] at ih; exact ih)
          | (have h : p % (m + 2) = 0 := by omega
             have h2 : q % (m + 2) = 0 := by omega
             rw [c3 b11 h h2] at ih; exact ih)
          | (have h2 : ¬ q % (m + 2) = 0 := by omega
             rw [c4 b11 h2] at ih; exact ih)
          | (have h : ¬ p % (m + 2) = 0 := by omega
             rw [c2 b11 h] at ih; exact ih)
        · refine zg_il0 zd_Ref_lowest_14 ?_
          refine zg_il3 zd_Ref_lowest_15 ?_
          refine zg_irem ((p : Int) % ((m : Int) + 2)) zd_Ref_lowest_16 (by rw [zg_eq0 (by omega)]; omega) (zb_rem (by omega) (by omega) (by omega)) ?_
          rw [r1]
          refine zg_if_ne (tgt := 26) zd_Ref_lowest_17 (by decide) (by omega) (fun b17 => ?_) (fun b17 => ?_)
          · refine zg_iconst zd_Ref_lowest_26 ?_
            refine zg_goto (tgt := 31) zd_Ref_lowest_27 (by decide) ?_
            refine zg_is2 zd_Ref_lowest_31 (fun w h => by cases h <;> rfl) (by decide) ?_
            refine zg_inc3 zd_Ref_lowest_32 (fun w h => by cases h <;> rfl) (by decide) ?_
            refine zg_goto (tgt := 4) zd_Ref_lowest_35 (by decide) ?_
            first
            | (rw [c1 b11] at ih; exact ih)
            | (have h : p % (m + 2) = 0 := by omega
               have h2 : q % (m + 2) = 0 := by omega
               rw [c3 b11 h h2] at ih; exact ih)
            | (have h2 : ¬ q % (m + 2) = 0 := by omega
               rw [c4 b11 h2] at ih; exact ih)
            | (have h : ¬ p % (m + 2) = 0 := by omega
               rw [c2 b11 h] at ih; exact ih)
          · refine zg_il1 zd_Ref_lowest_20 ?_
            refine zg_il3 zd_Ref_lowest_21 ?_
            refine zg_irem ((q : Int) % ((m : Int) + 2)) zd_Ref_lowest_22 (by rw [zg_eq0 (by omega)]; omega) (zb_rem (by omega) (by omega) (by omega)) ?_
            rw [r2]
            refine zg_if_eq (tgt := 30) zd_Ref_lowest_23 (by decide) (by omega) (fun b23 => ?_) (fun b23 => ?_)
            · refine zg_iconst zd_Ref_lowest_30 ?_
              refine zg_is2 zd_Ref_lowest_31 (fun w h => by cases h <;> rfl) (by decide) ?_
              refine zg_inc3 zd_Ref_lowest_32 (fun w h => by cases h <;> rfl) (by decide) ?_
              refine zg_goto (tgt := 4) zd_Ref_lowest_35 (by decide) ?_
              first
              | (rw [c1 b11] at ih; exact ih)
              | (have h : p % (m + 2) = 0 := by omega
                 have h2 : q % (m + 2) = 0 := by omega
                 rw [c3 b11 h h2] at ih; exact ih)
              | (have h2 : ¬ q % (m + 2) = 0 := by omega
                 rw [c4 b11 h2] at ih; exact ih)
              | (have h : ¬ p % (m + 2) = 0 := by omega
                 rw [c2 b11 h] at ih; exact ih)
            · refine zg_iconst zd_Ref_lowest_26 ?_
              refine zg_goto (tgt := 31) zd_Ref_lowest_27 (by decide) ?_
              refine zg_is2 zd_Ref_lowest_31 (fun w h => by cases h <;> rfl) (by decide) ?_
              refine zg_inc3 zd_Ref_lowest_32 (fun w h => by cases h <;> rfl) (by decide) ?_
              refine zg_goto (tgt := 4) zd_Ref_lowest_35 (by decide) ?_
              first
              | (rw [c1 b11] at ih; exact ih)
              | (have h : p % (m + 2) = 0 := by omega
                 have h2 : q % (m + 2) = 0 := by omega
                 rw [c3 b11 h h2] at ih; exact ih)
              | (have h2 : ¬ q % (m + 2) = 0 := by omega
                 rw [c4 b11 h2] at ih; exact ih)
              | (have h : ¬ p % (m + 2) = 0 := by omega
                 rw [c2 b11 h] at ih; exact ih)
  exact key 15 0 (by omega)
theorem cr_breaksAt {p q : Int} {S : Nat → Bool} (hS : ∀ k, S k = true ↔ V 228 k = 3) (hS16 : ∀ k, k < 32 → V 228 k = 3 → k < 16) (hst : ∀ k, k < 32 → 0 ≤ V 228 k ∧ V 228 k ≤ 3) (he : ∀ k, 1 ≤ k → k < 32 → 0 ≤ V 236 k ∧ V 236 k ≤ 16) (hp : 1 ≤ p ∧ p ≤ 16) (hq : 1 ≤ q ∧ q ≤ 15) (hL : ∀ x y, 1 ≤ zc_L (V 236) S x y 1 ∧ zc_L (V 236) S x y 1 ≤ 32) : zg_S Γ zm_Ref_breaksAt 2 0 0 [zg_r Γ 223, zg_i p, zg_i q] zk_K 242 (zk_P sh) V (zq_r zk_K 242 (zk_P sh) (fun rr V' => rr = some (zg_i (zg_b (decide (zc_L (V 236) S p q 1 < zc_L (V 236) S (1000 * p - 1) (1000 * q) 1)))) ∧ zv_on (fun b => 237 ≤ b ∧ b ≤ 239) V V')) := by
  have l1 := hL p q
  have l2 := hL (1000 * p - 1) (1000 * q)
  generalize hQ : zq_r zk_K 242 (zk_P sh) (fun rr V' => rr = some (zg_i (zg_b (decide (zc_L (V 236) S p q 1 < zc_L (V 236) S (1000 * p - 1) (1000 * q) 1)))) ∧ zv_on (fun b => 237 ≤ b ∧ b ≤ 239) V V') = Q
  refine zg_enter 1 (by decide) (Nat.le_of_ble_eq_true rfl) rfl ?_
  refine zg_al0 zd_Ref_breaksAt_0 ?_
  refine zg_il1 zd_Ref_breaksAt_1 ?_
  refine zg_il2 zd_Ref_breaksAt_2 ?_
  refine zg_cVr2 zd_Ref_breaksAt_3 zM_Ref_shape zw_852 zi_Ref_shape zs_Ref_shape (cr_shape hS hS16 hst he (by omega) (by omega)) (by decide) (by decide) (by omega) (by first | assumption | rfl) (by decide) rfl (Nat.le_of_ble_eq_true rfl) ?_
  intro r V1 hq1
  obtain ⟨rfl, q1, -⟩ := hq1
  have e6 : V1 236 = V 236 := q1 236 (by omega)
  have e8 : V1 228 = V 228 := q1 228 (by omega)
  refine zg_is3 zd_Ref_breaksAt_6 (fun w h => by cases h <;> rfl) (by decide) ?_
  refine zg_il3 zd_Ref_breaksAt_7 ?_
  refine zg_al0 zd_Ref_breaksAt_8 ?_
  refine zg_sipush zd_Ref_breaksAt_9 (by decide) ?_
  refine zg_il1 zd_Ref_breaksAt_12 ?_
  refine zg_imul zd_Ref_breaksAt_13 ?_
  refine zg_iconst zd_Ref_breaksAt_14 ?_
  refine zg_isub zd_Ref_breaksAt_15 ?_
  refine zg_sipush zd_Ref_breaksAt_16 (by decide) ?_
  refine zg_il2 zd_Ref_breaksAt_19 ?_
  refine zg_imul zd_Ref_breaksAt_20 ?_
  refine zg_cVr2 zd_Ref_breaksAt_21 zM_Ref_shape zw_852 zi_Ref_shape zs_Ref_shape (cr_shape (S := S) (by rw [e8]; exact hS) (by rw [e8]; exact hS16) (by rw [e8]; exact hst) (by rw [e6]; exact he) (by omega) (by omega)) (by decide) (by decide) (by omega) (by first | assumption | rfl) (by decide) rfl (Nat.le_of_ble_eq_true rfl) ?_
  intro r V2 hq2
  obtain ⟨rfl, q2, -⟩ := hq2
  rw [e6]
  refine zg_icmp_ge (tgt := 31) zd_Ref_breaksAt_24 (by decide) (by omega) (by omega) (fun b24 => ?_) (fun b24 => ?_)
  · refine zg_iconst zd_Ref_breaksAt_31 ?_
    refine zg_zreturn zd_Ref_breaksAt_32 rfl (by omega) ?_
    subst hQ
    have hv : zv_on (fun b => 237 ≤ b ∧ b ≤ 239) V V2 := zv_on_tr q1 q2
    first
      | exact ⟨rfl, rfl, rfl, by rw [decide_eq_true (by omega)]; rfl, hv⟩
      | exact ⟨rfl, rfl, rfl, by rw [decide_eq_false (by omega)]; rfl, hv⟩
  · refine zg_iconst zd_Ref_breaksAt_27 ?_
    refine zg_goto (tgt := 32) zd_Ref_breaksAt_28 (by decide) ?_
    refine zg_zreturn zd_Ref_breaksAt_32 rfl (by omega) ?_
    subst hQ
    have hv : zv_on (fun b => 237 ≤ b ∧ b ≤ 239) V V2 := zv_on_tr q1 q2
    first
      | exact ⟨rfl, rfl, rfl, by rw [decide_eq_true (by omega)]; rfl, hv⟩
      | exact ⟨rfl, rfl, rfl, by rw [decide_eq_false (by omega)]; rfl, hv⟩
/-- what insert does -/
def zr_ins (V V' : zg_V) (p q : Int) (m : Nat) : Prop := ∃ j, j ≤ m ∧ (∀ i, i < j → V' 240 i = V 240 i ∧ V' 241 i = V 241 i) ∧ V' 240 j = p ∧ V' 241 j = q ∧ (∀ i, j ≤ i → i < m → V' 240 (i + 1) = V 240 i ∧ V' 241 (i + 1) = V 241 i ∧ p * V 241 i < V 240 i * q) ∧ (j = 0 ∨ V 240 (j - 1) * q ≤ p * V 241 (j - 1))
theorem cr_insert {p q : Int} {m : Nat} (hm : V 223 31 = (m : Int)) (hm15 : m ≤ 15) (hb : ∀ i, i < m → (1 ≤ V 240 i ∧ V 240 i ≤ 16) ∧ (1 ≤ V 241 i ∧ V 241 i ≤ 15)) (hp : 1 ≤ p ∧ p ≤ 16) (hq : 1 ≤ q ∧ q ≤ 15) : zg_S Γ zm_Ref_insert 0 0 0 [zg_r Γ 223, zg_i p, zg_i q] zk_K 242 (zk_P sh) V (zq_r zk_K 242 (zk_P sh) (fun rr V' => rr = none ∧ zr_ins V V' p q m ∧ V' 223 31 = (m : Int) + 1 ∧ (∀ j, j ≠ 31 → V' 223 j = V 223 j) ∧ zv_on (fun b => b = 223 ∨ b = 240 ∨ b = 241) V V')) := by
  have pb : ∀ a b : Int, (1 ≤ a ∧ a ≤ 16) → (1 ≤ b ∧ b ≤ 16) → 0 ≤ a * b ∧ a * b ≤ 256 := fun a b ha hb => by
    refine ⟨Int.mul_nonneg (by omega) (by omega), ?_⟩
    have h1 : a * b ≤ 16 * b := Int.mul_le_mul_of_nonneg_right ha.2 (by omega)
    omega
  generalize hQ : zq_r zk_K 242 (zk_P sh) (fun rr V' => rr = none ∧ zr_ins V V' p q m ∧ V' 223 31 = (m : Int) + 1 ∧ (∀ j, j ≠ 31 → V' 223 j = V 223 j) ∧ zv_on (fun b => b = 223 ∨ b = 240 ∨ b = 241) V V') = Q
  refine zg_enter 1 (by decide) (Nat.le_of_ble_eq_true rfl) rfl ?_
  have key : ∀ (j : Nat) (U : zg_V) (hj : j ≤ m) (hU : zv_on (fun b => b = 240 ∨ b = 241) V U) (hlo : ∀ i, i < j → U 240 i = V 240 i ∧ U 241 i = V 241 i) (hhi : ∀ i, j ≤ i → i < m → U 240 (i + 1) = V 240 i ∧ U 241 (i + 1) = V 241 i ∧ p * V 241 i < V 240 i * q), zg_G Γ (fun _ => True) zm_Ref_insert (zg_rm 0 0 0) (zg_Ω Γ (Q) 0 0) 0 0 5 [some (zg_r Γ (223)), some (zg_i (p)), some (zg_i (q)), some (zg_i ((j : Nat)))] [] zk_K 242 (zk_P sh) (U) := by
    intro j
    induction j with
    | zero =>
      intro U hj hU hlo hhi
      have h31 : U 223 31 = (m : Int) := by rw [hU 223 (by decide)]; exact hm
      have e31 : zg_u (zg_u U 240 0 p) 241 0 q 223 31 = (m : Int) := by rw [zg_u_out _ _ _ _ (by decide), zg_u_out _ _ _ _ (by decide)]; exact h31
      refine zg_il3 zd_Ref_insert_5 ?_
      refine zg_if_le (tgt := 66) zd_Ref_insert_6 (by decide) (by omega) (fun b6 => ?_) (fun b6 => ?_)
      · refine zg_al0 zd_Ref_insert_66 ?_
        refine zg_getr zd_Ref_insert_67 zf_673 (by omega) (by first | assumption | rfl) rfl (by first | assumption | rfl) ?_
        refine zg_il3 zd_Ref_insert_70 ?_
        refine zg_il1 zd_Ref_insert_71 ?_
        refine zg_iast (j := 0) zd_Ref_insert_72 (by omega) rfl rfl (by omega) (by decide) ?_
        refine zg_al0 zd_Ref_insert_73 ?_
        refine zg_getr zd_Ref_insert_74 zf_674 (by omega) (by first | assumption | rfl) rfl (by first | assumption | rfl) ?_
        refine zg_il3 zd_Ref_insert_77 ?_
        refine zg_il2 zd_Ref_insert_78 ?_
        refine zg_iast (j := 0) zd_Ref_insert_79 (by omega) rfl rfl (by omega) (by decide) ?_
        refine zg_al0 zd_Ref_insert_80 ?_
        refine zg_dup zd_Ref_insert_81 rfl ?_
        refine zg_geti zd_Ref_insert_82 zf_672 (by omega) (by first | assumption | rfl) rfl ?_
        rw [e31]
        refine zg_iconst zd_Ref_insert_85 ?_
        refine zg_iadd zd_Ref_insert_86 ?_
        refine zg_puti zd_Ref_insert_87 zf_672 rfl (by omega) (by first | assumption | rfl) rfl ?_
        refine zg_return zd_Ref_insert_90 rfl ?_
        subst hQ
        refine ⟨rfl, rfl, rfl, rfl, ⟨0, by omega, fun i hi => by omega, ?_, ?_, fun i h1 h2 => ?_, Or.inl rfl⟩, ?_, ?_, ?_⟩
        · simp [zg_u]
        · simp [zg_u]
        · have := hhi i h1 h2
          simp [zg_u]
          exact this
        · simp [zg_u]
        · intro j hj
          simp [zg_u, hj]
          rw [hU 223 (by decide)]
        · intro b hb
          rw [zg_u_out _ _ _ _ (by omega), zg_u_out _ _ _ _ (by omega), zg_u_out _ _ _ _ (by omega)]
          exact hU b (by omega)
      · omega
    | succ j ih =>
      intro U hj hU hlo hhi
      have h31 : U 223 31 = (m : Int) := by rw [hU 223 (by decide)]; exact hm
      have e31 : zg_u (zg_u U 240 (j + 1) p) 241 (j + 1) q 223 31 = (m : Int) := by rw [zg_u_out _ _ _ _ (by decide), zg_u_out _ _ _ _ (by decide)]; exact h31
      obtain ⟨l1, l2⟩ := hlo j (by omega)
      obtain ⟨b1, b2⟩ := hb j (by omega)
      have p1 := pb (V 240 j) q b1 (by omega)
      have p2 := pb p (V 241 j) (by omega) (by omega)
      have ec : ((j + 1 : Nat) : Int) + -1 = (j : Int) := by omega
      have e58 : zg_u U 240 (j + 1) (V 240 j) 241 j = V 241 j := by rw [zg_u_out _ _ _ _ (by decide)]; exact l2
      have ih' : p * V 241 j < V 240 j * q → zg_G Γ (fun _ => True) zm_Ref_insert (zg_rm 0 0 0) (zg_Ω Γ (Q) 0 0) 0 0 5 [some (zg_r Γ (223)), some (zg_i (p)), some (zg_i (q)), some (zg_i ((j : Nat)))] [] zk_K 242 (zk_P sh) (zg_u (zg_u U 240 (j + 1) (V 240 j)) 241 (j + 1) (V 241 j)) := fun hlt => by
        refine ih _ (by omega) (fun b hb => ?_) (fun i hi => ?_) (fun i h1 h2 => ?_)
        · rw [zg_u_out _ _ _ _ (by omega), zg_u_out _ _ _ _ (by omega)]; exact hU b hb
        · rw [zg_u_out _ _ _ _ (by decide), zg_u_off _ _ _ _ (by omega), zg_u_off _ _ _ _ (by omega), zg_u_out _ _ _ _ (by decide)]
          exact hlo i (by omega)
        · by_cases e : i = j
          · subst e
            rw [zg_u_out _ _ _ _ (by decide), zg_u_in, zg_u_in]
            exact ⟨rfl, rfl, hlt⟩
          · rw [zg_u_out _ _ _ _ (by decide), zg_u_off _ _ _ _ (by omega), zg_u_off _ _ _ _ (by omega), zg_u_out _ _ _ _ (by decide)]
            exact hhi i (by omega) h2
      refine zg_il3 zd_Ref_insert_5 ?_
      refine zg_if_le (tgt := 66) zd_Ref_insert_6 (by decide) (by omega) (fun b6 => ?_) (fun b6 => ?_)
      · refine zg_al0 zd_Ref_insert_66 ?_
        refine zg_getr zd_Ref_insert_67 zf_673 (by omega) (by first | assumption | rfl) rfl (by first | assumption | rfl) ?_
        refine zg_il3 zd_Ref_insert_70 ?_
        refine zg_il1 zd_Ref_insert_71 ?_
        refine zg_iast (j := j + 1) zd_Ref_insert_72 (by omega) rfl rfl (by omega) (by decide) ?_
        refine zg_al0 zd_Ref_insert_73 ?_
        refine zg_getr zd_Ref_insert_74 zf_674 (by omega) (by first | assumption | rfl) rfl (by first | assumption | rfl) ?_
        refine zg_il3 zd_Ref_insert_77 ?_
        refine zg_il2 zd_Ref_insert_78 ?_
        refine zg_iast (j := j + 1) zd_Ref_insert_79 (by omega) rfl rfl (by omega) (by decide) ?_
        refine zg_al0 zd_Ref_insert_80 ?_
        refine zg_dup zd_Ref_insert_81 rfl ?_
        refine zg_geti zd_Ref_insert_82 zf_672 (by omega) (by first | assumption | rfl) rfl ?_
        rw [e31]
        refine zg_iconst zd_Ref_insert_85 ?_
        refine zg_iadd zd_Ref_insert_86 ?_
        refine zg_puti zd_Ref_insert_87 zf_672 rfl (by omega) (by first | assumption | rfl) rfl ?_
        refine zg_return zd_Ref_insert_90 rfl ?_
        first
        | (exfalso; omega)
        | (subst hQ
           refine ⟨rfl, rfl, rfl, rfl, ⟨j + 1, by omega, fun i hi => ?_, ?_, ?_, fun i h1 h2 => ?_, Or.inr ?_⟩, ?_, ?_, ?_⟩
           · have := hlo i hi
             have hne : i ≠ j + 1 := by omega
             simp [zg_u, hne]
             exact this
           · simp [zg_u]
           · simp [zg_u]
           · have := hhi i h1 h2
             have hne : ¬ i = j := by omega
             simp [zg_u, hne]
             exact this
           · show V 240 j * q ≤ p * V 241 j
             omega
           · simp [zg_u]
           · intro j hj
             simp [zg_u, hj]
             rw [hU 223 (by decide)]
           · intro b hb
             rw [zg_u_out _ _ _ _ (by omega), zg_u_out _ _ _ _ (by omega), zg_u_out _ _ _ _ (by omega)]
             exact hU b (by omega))
      · refine zg_al0 zd_Ref_insert_9 ?_
        refine zg_getr zd_Ref_insert_10 zf_673 (by omega) (by first | assumption | rfl) rfl (by first | assumption | rfl) ?_
        refine zg_il3 zd_Ref_insert_13 ?_
        refine zg_iconst zd_Ref_insert_14 ?_
        refine zg_isub zd_Ref_insert_15 ?_
        refine zg_iald (j := j) zd_Ref_insert_16 (by omega) rfl (by omega) (by omega) (by decide) ?_
        rw [l1]
        refine zg_il2 zd_Ref_insert_17 ?_
        refine zg_imul zd_Ref_insert_18 ?_
        refine zg_il1 zd_Ref_insert_19 ?_
        refine zg_al0 zd_Ref_insert_20 ?_
        refine zg_getr zd_Ref_insert_21 zf_674 (by omega) (by first | assumption | rfl) rfl (by first | assumption | rfl) ?_
        refine zg_il3 zd_Ref_insert_24 ?_
        refine zg_iconst zd_Ref_insert_25 ?_
        refine zg_isub zd_Ref_insert_26 ?_
        refine zg_iald (j := j) zd_Ref_insert_27 (by omega) rfl (by omega) (by omega) (by decide) ?_
        rw [l2]
        refine zg_imul zd_Ref_insert_28 ?_
        refine zg_icmp_le (tgt := 66) zd_Ref_insert_29 (by decide) (by omega) (by omega) (fun b29 => ?_) (fun b29 => ?_)
        · refine zg_al0 zd_Ref_insert_66 ?_
          refine zg_getr zd_Ref_insert_67 zf_673 (by omega) (by first | assumption | rfl) rfl (by first | assumption | rfl) ?_
          refine zg_il3 zd_Ref_insert_70 ?_
          refine zg_il1 zd_Ref_insert_71 ?_
          refine zg_iast (j := j + 1) zd_Ref_insert_72 (by omega) rfl rfl (by omega) (by decide) ?_
          refine zg_al0 zd_Ref_insert_73 ?_
          refine zg_getr zd_Ref_insert_74 zf_674 (by omega) (by first | assumption | rfl) rfl (by first | assumption | rfl) ?_
          refine zg_il3 zd_Ref_insert_77 ?_
          refine zg_il2 zd_Ref_insert_78 ?_
          refine zg_iast (j := j + 1) zd_Ref_insert_79 (by omega) rfl rfl (by omega) (by decide) ?_
          refine zg_al0 zd_Ref_insert_80 ?_
          refine zg_dup zd_Ref_insert_81 rfl ?_
          refine zg_geti zd_Ref_insert_82 zf_672 (by omega) (by first | assumption | rfl) rfl ?_
          rw [e31]
          refine zg_iconst zd_Ref_insert_85 ?_
          refine zg_iadd zd_Ref_insert_86 ?_
          refine zg_puti zd_Ref_insert_87 zf_672 rfl (by omega) (by first | assumption | rfl) rfl ?_
          refine zg_return zd_Ref_insert_90 rfl ?_
          first
          | (exfalso; omega)
          | (subst hQ
             refine ⟨rfl, rfl, rfl, rfl, ⟨j + 1, by omega, fun i hi => ?_, ?_, ?_, fun i h1 h2 => ?_, Or.inr ?_⟩, ?_, ?_, ?_⟩
             · have := hlo i hi
               have hne : i ≠ j + 1 := by omega
               simp [zg_u, hne]
               exact this
             · simp [zg_u]
             · simp [zg_u]
             · have := hhi i h1 h2
               have hne : ¬ i = j := by omega
               simp [zg_u, hne]
               exact this
             · show V 240 j * q ≤ p * V 241 j
               omega
             · simp [zg_u]
             · intro j hj
               simp [zg_u, hj]
               rw [hU 223 (by decide)]
             · intro b hb
               rw [zg_u_out _ _ _ _ (by omega), zg_u_out _ _ _ _ (by omega), zg_u_out _ _ _ _ (by omega)]
               exact hU b (by omega))
        · refine zg_al0 zd_Ref_insert_32 ?_
          refine zg_getr zd_Ref_insert_33 zf_673 (by omega) (by first | assumption | rfl) rfl (by first | assumption | rfl) ?_
          refine zg_il3 zd_Ref_insert_36 ?_
          refine zg_al0 zd_Ref_insert_37 ?_
          refine zg_getr zd_Ref_insert_38 zf_673 (by omega) (by first | assumption | rfl) rfl (by first | assumption | rfl) ?_
          refine zg_il3 zd_Ref_insert_41 ?_
          refine zg_iconst zd_Ref_insert_42 ?_
          refine zg_isub zd_Ref_insert_43 ?_
          refine zg_iald (j := j) zd_Ref_insert_44 (by omega) rfl (by omega) (by omega) (by decide) ?_
          rw [l1]
          refine zg_iast (j := j + 1) zd_Ref_insert_45 (by omega) rfl rfl (by omega) (by decide) ?_
          refine zg_al0 zd_Ref_insert_46 ?_
          refine zg_getr zd_Ref_insert_47 zf_674 (by omega) (by first | assumption | rfl) rfl (by first | assumption | rfl) ?_
          refine zg_il3 zd_Ref_insert_50 ?_
          refine zg_al0 zd_Ref_insert_51 ?_
          refine zg_getr zd_Ref_insert_52 zf_674 (by omega) (by first | assumption | rfl) rfl (by first | assumption | rfl) ?_
          refine zg_il3 zd_Ref_insert_55 ?_
          refine zg_iconst zd_Ref_insert_56 ?_
          refine zg_isub zd_Ref_insert_57 ?_
          refine zg_iald (j := j) zd_Ref_insert_58 (by omega) rfl (by omega) (by omega) (by decide) ?_
          rw [e58]
          refine zg_iast (j := j + 1) zd_Ref_insert_59 (by omega) rfl rfl (by omega) (by decide) ?_
          refine zg_inc3 zd_Ref_insert_60 (fun w h => by cases h <;> rfl) (by decide) ?_
          rw [ec]
          refine zg_goto (tgt := 5) zd_Ref_insert_63 (by decide) ?_
          exact ih' (by omega)
  refine zg_al0 zd_Ref_insert_0 ?_
  refine zg_geti zd_Ref_insert_1 zf_672 (by omega) (by first | assumption | rfl) rfl ?_
  rw [hm]
  refine zg_is3 zd_Ref_insert_4 (fun w h => by cases h <;> rfl) (by decide) ?_
  exact key m V (Nat.le_refl m) (fun b _ => rfl) (fun i _ => ⟨rfl, rfl⟩) (fun i h1 h2 => by omega)
end ZT32

