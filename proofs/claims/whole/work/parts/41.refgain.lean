/-! the reference: next, gainOf, waiting, depthOf, consider -/
theorem zg_u_cm (V : zg_V) (a j j' : Nat) (x y : Int) (h : j ≠ j') : zg_u (zg_u V a j x) a j' y = zg_u (zg_u V a j' y) a j x := by
  funext b k
  unfold zg_u
  by_cases hb : b = a
  · simp only [hb, if_true]
    by_cases h1 : k = j
    · subst h1
      simp only [if_true, if_neg h]
    · simp only [h1, if_false]
  · simp only [hb, if_false]
def zr_g (V : zg_V) (T B : Int) : zg_V := zg_u (zg_u V 223 15 T) 223 16 B
theorem zx_id' (x y l r : Int) : x * x * (l + r) * r + y * y * (l + r) * l - (x + y) * (x + y) * l * r = (x * r - y * l) * (x * r - y * l) := by
  rw [zx_id]
  simp only [Int.mul_add, Int.add_mul, Int.mul_assoc, Int.mul_comm, Int.mul_left_comm]
theorem zx_mx_c {f g : Nat → Int} : ∀ {c : Nat}, (∀ i, i < c → f i = g i) → zx_mx f c = zx_mx g c
  | 0, _ => rfl
  | c + 1, h => by rw [zx_mx_s, zx_mx_s, h c (by omega), zx_mx_c (fun i hi => h i (by omega))]
theorem zr_g_t (V : zg_V) (T B T' : Int) : zg_u (zg_u (zg_u V 223 15 T) 223 16 B) 223 15 T' = zg_u (zg_u V 223 15 T') 223 16 B := by
  rw [zg_u_cm _ 223 16 15 _ _ (by decide), zg_u_u]
section ZT21
variable {Γ : zg_C} {K : zg_K} {N : Nat} {P : zg_P} {V : zg_V} {sh : Nat}
theorem cr_next {s f i j n : Nat} (hs : s < 65536) (hf : f < 3) (hi : i < 16) (hj : j < 16) (hT : zr_T V n) : zg_S Γ zm_Ref_next 1 0 0 [zg_r Γ 223, zg_i s, zg_i f, zg_i i, zg_i j] zk_K 242 (zk_P sh) V (zq_p zk_K 242 (zk_P sh) V (some (zg_i (zg_b (zr_nx (zr_va V) s f i j n))))) := by
  have hvi := hT.2.2.1 i f hi hf
  have hvj := hT.2.2.1 j f hj hf
  obtain ⟨hn, hn16, hva, -⟩ := hT
  generalize hp : (fun r => s.testBit r && decide (zr_va V i f < zr_va V r f ∧ zr_va V r f < zr_va V j f)) = p
  have hnx : zr_nx (zr_va V) s f i j n = (s.testBit i && (s.testBit j && (decide (V 224 (3 * i + f) < V 224 (3 * j + f)) && zr_fr p n))) := by rw [← hp]; rfl
  rw [hnx]
  generalize hQ : zq_p zk_K 242 (zk_P sh) V (some (zg_i (zg_b (s.testBit i && (s.testBit j && (decide (V 224 (3 * i + f) < V 224 (3 * j + f)) && zr_fr p n)))))) = Q
  refine zg_enter 3 (by decide) (Nat.le_of_ble_eq_true rfl) rfl ?_
  have key : s.testBit i = true → s.testBit j = true → V 224 (3 * i + f) < V 224 (3 * j + f) → ∀ (g m : Nat) (o7 : Option Value) (hij : m + g = n), zg_G Γ (fun _ => True) zm_Ref_next (zg_rm 1 0 0) (zg_Ω Γ (Q) 0 0) 0 0 49 [some (zg_r Γ (223)), some (zg_i (s)), some (zg_i (f)), some (zg_i (i)), some (zg_i (j)), some (zg_i (zg_b (zr_fr p m))), some (zg_i ((m : Nat))), o7] [] zk_K 242 (zk_P sh) (V) := by
    intro t1 t2 t3 g
    induction g with
    | zero =>
      intro m o7 hij
      have e : m = n := by omega
      subst e
      refine zg_il6 zd_Ref_next_49 ?_
      refine zg_al0 zd_Ref_next_51 ?_
      refine zg_geti zd_Ref_next_52 zf_641 (by omega) (by first | assumption | rfl) rfl ?_
      rw [hn]
      refine zg_icmp_ge (tgt := 129) zd_Ref_next_55 (by decide) (by omega) (by omega) (fun b55 => ?_) (fun b55 => ?_)
      · refine zg_il5 zd_Ref_next_129 ?_
        refine zg_zreturn zd_Ref_next_131 rfl (zg_b01 _) ?_
        subst hQ
        rw [t1, t2, decide_eq_true t3, Bool.true_and, Bool.true_and, Bool.true_and]
        exact ⟨rfl, rfl, rfl, rfl, rfl⟩
      · omega
    | succ g ih =>
      intro m o7 hij
      have ih := ih (m + 1) (some (zg_i (V 224 (3 * m + f)))) (by omega)
      rw [zr_fr_s] at ih
      have hvm := hva m f (by omega) hf
      have hpm : p m = (s.testBit m && decide (V 224 (3 * i + f) < V 224 (3 * m + f) ∧ V 224 (3 * m + f) < V 224 (3 * j + f))) := by rw [← hp]; rfl
      have c1 : zr_fr p m = false → (zr_fr p m && !(p m)) = false := fun q => by rw [q]; rfl
      have c2 : zr_fr p m = true → p m = false → (zr_fr p m && !(p m)) = true := fun q r => by rw [q, r]; rfl
      have c3 : p m = true → (zr_fr p m && !(p m)) = false := fun r => by rw [r, Bool.not_true, Bool.and_false]
      refine zg_il6 zd_Ref_next_49 ?_
      refine zg_al0 zd_Ref_next_51 ?_
      refine zg_geti zd_Ref_next_52 zf_641 (by omega) (by first | assumption | rfl) rfl ?_
      rw [hn]
      refine zg_icmp_ge (tgt := 129) zd_Ref_next_55 (by decide) (by omega) (by omega) (fun b55 => ?_) (fun b55 => ?_)
      · omega
      · refine zg_al0 zd_Ref_next_58 ?_
        refine zg_getr zd_Ref_next_59 zf_642 (by omega) (by first | assumption | rfl) rfl (by first | assumption | rfl) ?_
        refine zg_iconst zd_Ref_next_62 ?_
        refine zg_il6 zd_Ref_next_63 ?_
        refine zg_imul zd_Ref_next_65 ?_
        refine zg_il2 zd_Ref_next_66 ?_
        refine zg_iadd zd_Ref_next_67 ?_
        refine zg_iald (j := 3 * m + f) zd_Ref_next_68 (by omega) rfl (by omega) (by omega) (by decide) ?_
        refine zg_is7 zd_Ref_next_69 (fun w h => by cases h <;> rfl) (by decide) ?_
        refine zg_il5 zd_Ref_next_71 ?_
        refine zg_if_eqB (tgt := 120) zd_Ref_next_73 (by decide) (fun b73 => ?_) (fun b73 => ?_)
        · refine zg_iconst zd_Ref_next_120 ?_
          refine zg_is5 zd_Ref_next_121 (fun w h => by cases h <;> rfl) (by decide) ?_
          refine zg_inc6 zd_Ref_next_123 (fun w h => by cases h <;> rfl) (by decide) ?_
          refine zg_goto (tgt := 49) zd_Ref_next_126 (by decide) ?_
          first
          | (rw [c1 b73] at ih; exact ih)
          | (rw [c2 b73 (by rw [hpm, b82, Bool.false_and])] at ih; exact ih)
          | (rw [c2 b73 (by rw [hpm, decide_eq_false (by omega), Bool.and_false])] at ih; exact ih)
          | (rw [c3 (by rw [hpm, b82, decide_eq_true (by omega)]; rfl)] at ih; exact ih)
        · refine zg_il1 zd_Ref_next_76 ?_
          refine zg_il6 zd_Ref_next_77 ?_
          refine zg_cSp2 zd_Ref_next_79 zM_Ref_has zw_792 zi_Ref_has (cr_has hs (by omega)) (by decide) (by decide) (Nat.le_of_ble_eq_true rfl) ?_
          refine zg_if_eqB (tgt := 116) zd_Ref_next_82 (by decide) (fun b82 => ?_) (fun b82 => ?_)
          · refine zg_iconst zd_Ref_next_116 ?_
            refine zg_goto (tgt := 121) zd_Ref_next_117 (by decide) ?_
            refine zg_is5 zd_Ref_next_121 (fun w h => by cases h <;> rfl) (by decide) ?_
            refine zg_inc6 zd_Ref_next_123 (fun w h => by cases h <;> rfl) (by decide) ?_
            refine zg_goto (tgt := 49) zd_Ref_next_126 (by decide) ?_
            first
            | (rw [c1 b73] at ih; exact ih)
            | (rw [c2 b73 (by rw [hpm, b82, Bool.false_and])] at ih; exact ih)
            | (rw [c2 b73 (by rw [hpm, decide_eq_false (by omega), Bool.and_false])] at ih; exact ih)
            | (rw [c3 (by rw [hpm, b82, decide_eq_true (by omega)]; rfl)] at ih; exact ih)
          · refine zg_il7 zd_Ref_next_85 ?_
            refine zg_al0 zd_Ref_next_87 ?_
            refine zg_getr zd_Ref_next_88 zf_642 (by omega) (by first | assumption | rfl) rfl (by first | assumption | rfl) ?_
            refine zg_iconst zd_Ref_next_91 ?_
            refine zg_il3 zd_Ref_next_92 ?_
            refine zg_imul zd_Ref_next_93 ?_
            refine zg_il2 zd_Ref_next_94 ?_
            refine zg_iadd zd_Ref_next_95 ?_
            refine zg_iald (j := 3 * i + f) zd_Ref_next_96 (by omega) rfl (by omega) (by omega) (by decide) ?_
            refine zg_icmp_le (tgt := 116) zd_Ref_next_97 (by decide) (by omega) (by omega) (fun b97 => ?_) (fun b97 => ?_)
            · refine zg_iconst zd_Ref_next_116 ?_
              refine zg_goto (tgt := 121) zd_Ref_next_117 (by decide) ?_
              refine zg_is5 zd_Ref_next_121 (fun w h => by cases h <;> rfl) (by decide) ?_
              refine zg_inc6 zd_Ref_next_123 (fun w h => by cases h <;> rfl) (by decide) ?_
              refine zg_goto (tgt := 49) zd_Ref_next_126 (by decide) ?_
              first
              | (rw [c1 b73] at ih; exact ih)
              | (rw [c2 b73 (by rw [hpm, b82, Bool.false_and])] at ih; exact ih)
              | (rw [c2 b73 (by rw [hpm, decide_eq_false (by omega), Bool.and_false])] at ih; exact ih)
              | (rw [c3 (by rw [hpm, b82, decide_eq_true (by omega)]; rfl)] at ih; exact ih)
            · refine zg_il7 zd_Ref_next_100 ?_
              refine zg_al0 zd_Ref_next_102 ?_
              refine zg_getr zd_Ref_next_103 zf_642 (by omega) (by first | assumption | rfl) rfl (by first | assumption | rfl) ?_
              refine zg_iconst zd_Ref_next_106 ?_
              refine zg_il4 zd_Ref_next_107 ?_
              refine zg_imul zd_Ref_next_109 ?_
              refine zg_il2 zd_Ref_next_110 ?_
              refine zg_iadd zd_Ref_next_111 ?_
              refine zg_iald (j := 3 * j + f) zd_Ref_next_112 (by omega) rfl (by omega) (by omega) (by decide) ?_
              refine zg_icmp_lt (tgt := 120) zd_Ref_next_113 (by decide) (by omega) (by omega) (fun b113 => ?_) (fun b113 => ?_)
              · refine zg_iconst zd_Ref_next_120 ?_
                refine zg_is5 zd_Ref_next_121 (fun w h => by cases h <;> rfl) (by decide) ?_
                refine zg_inc6 zd_Ref_next_123 (fun w h => by cases h <;> rfl) (by decide) ?_
                refine zg_goto (tgt := 49) zd_Ref_next_126 (by decide) ?_
                first
                | (rw [c1 b73] at ih; exact ih)
                | (rw [c2 b73 (by rw [hpm, b82, Bool.false_and])] at ih; exact ih)
                | (rw [c2 b73 (by rw [hpm, decide_eq_false (by omega), Bool.and_false])] at ih; exact ih)
                | (rw [c3 (by rw [hpm, b82, decide_eq_true (by omega)]; rfl)] at ih; exact ih)
              · refine zg_iconst zd_Ref_next_116 ?_
                refine zg_goto (tgt := 121) zd_Ref_next_117 (by decide) ?_
                refine zg_is5 zd_Ref_next_121 (fun w h => by cases h <;> rfl) (by decide) ?_
                refine zg_inc6 zd_Ref_next_123 (fun w h => by cases h <;> rfl) (by decide) ?_
                refine zg_goto (tgt := 49) zd_Ref_next_126 (by decide) ?_
                first
                | (rw [c1 b73] at ih; exact ih)
                | (rw [c2 b73 (by rw [hpm, b82, Bool.false_and])] at ih; exact ih)
                | (rw [c2 b73 (by rw [hpm, decide_eq_false (by omega), Bool.and_false])] at ih; exact ih)
                | (rw [c3 (by rw [hpm, b82, decide_eq_true (by omega)]; rfl)] at ih; exact ih)
  refine zg_il1 zd_Ref_next_0 ?_
  refine zg_il3 zd_Ref_next_1 ?_
  refine zg_cSp2 zd_Ref_next_2 zM_Ref_has zw_792 zi_Ref_has (cr_has hs hi) (by decide) (by decide) (Nat.le_of_ble_eq_true rfl) ?_
  refine zg_if_eqB (tgt := 41) zd_Ref_next_5 (by decide) (fun b5 => ?_) (fun b5 => ?_)
  · refine zg_iconst zd_Ref_next_41 ?_
    refine zg_zreturn zd_Ref_next_42 rfl (by omega) ?_
    subst hQ
    first
      | (rw [b5, Bool.false_and]; exact ⟨rfl, rfl, rfl, rfl, rfl⟩)
      | (rw [b14, Bool.false_and, Bool.and_false]; exact ⟨rfl, rfl, rfl, rfl, rfl⟩)
      | (rw [decide_eq_false b38, Bool.false_and, Bool.and_false, Bool.and_false]; exact ⟨rfl, rfl, rfl, rfl, rfl⟩)
  · refine zg_il1 zd_Ref_next_8 ?_
    refine zg_il4 zd_Ref_next_9 ?_
    refine zg_cSp2 zd_Ref_next_11 zM_Ref_has zw_792 zi_Ref_has (cr_has hs hj) (by decide) (by decide) (Nat.le_of_ble_eq_true rfl) ?_
    refine zg_if_eqB (tgt := 41) zd_Ref_next_14 (by decide) (fun b14 => ?_) (fun b14 => ?_)
    · refine zg_iconst zd_Ref_next_41 ?_
      refine zg_zreturn zd_Ref_next_42 rfl (by omega) ?_
      subst hQ
      first
        | (rw [b5, Bool.false_and]; exact ⟨rfl, rfl, rfl, rfl, rfl⟩)
        | (rw [b14, Bool.false_and, Bool.and_false]; exact ⟨rfl, rfl, rfl, rfl, rfl⟩)
        | (rw [decide_eq_false b38, Bool.false_and, Bool.and_false, Bool.and_false]; exact ⟨rfl, rfl, rfl, rfl, rfl⟩)
    · refine zg_al0 zd_Ref_next_17 ?_
      refine zg_getr zd_Ref_next_18 zf_642 (by omega) (by first | assumption | rfl) rfl (by first | assumption | rfl) ?_
      refine zg_iconst zd_Ref_next_21 ?_
      refine zg_il3 zd_Ref_next_22 ?_
      refine zg_imul zd_Ref_next_23 ?_
      refine zg_il2 zd_Ref_next_24 ?_
      refine zg_iadd zd_Ref_next_25 ?_
      refine zg_iald (j := 3 * i + f) zd_Ref_next_26 (by omega) rfl (by omega) (by omega) (by decide) ?_
      refine zg_al0 zd_Ref_next_27 ?_
      refine zg_getr zd_Ref_next_28 zf_642 (by omega) (by first | assumption | rfl) rfl (by first | assumption | rfl) ?_
      refine zg_iconst zd_Ref_next_31 ?_
      refine zg_il4 zd_Ref_next_32 ?_
      refine zg_imul zd_Ref_next_34 ?_
      refine zg_il2 zd_Ref_next_35 ?_
      refine zg_iadd zd_Ref_next_36 ?_
      refine zg_iald (j := 3 * j + f) zd_Ref_next_37 (by omega) rfl (by omega) (by omega) (by decide) ?_
      refine zg_icmp_lt (tgt := 43) zd_Ref_next_38 (by decide) (by omega) (by omega) (fun b38 => ?_) (fun b38 => ?_)
      · refine zg_iconst zd_Ref_next_43 ?_
        refine zg_is5 zd_Ref_next_44 (fun w h => by cases h <;> rfl) (by decide) ?_
        refine zg_iconst zd_Ref_next_46 ?_
        refine zg_is6 zd_Ref_next_47 (fun w h => by cases h <;> rfl) (by decide) ?_
        exact key b5 b14 b38 n 0 none (by omega)
      · refine zg_iconst zd_Ref_next_41 ?_
        refine zg_zreturn zd_Ref_next_42 rfl (by omega) ?_
        subst hQ
        first
          | (rw [b5, Bool.false_and]; exact ⟨rfl, rfl, rfl, rfl, rfl⟩)
          | (rw [b14, Bool.false_and, Bool.and_false]; exact ⟨rfl, rfl, rfl, rfl, rfl⟩)
          | (rw [decide_eq_false b38, Bool.false_and, Bool.and_false, Bool.and_false]; exact ⟨rfl, rfl, rfl, rfl, rfl⟩)
theorem cr_waiting (hk : ∀ k, k < 32 → 0 ≤ V 228 k ∧ V 228 k ≤ 3) : zg_S Γ zm_Ref_waiting 0 0 0 [zg_r Γ 223] zk_K 242 (zk_P sh) V (zq_p zk_K 242 (zk_P sh) V (some (zg_i (zt_fw (fun k => V 228 k - 1) 31 1 : Nat)))) := by
  generalize hQ : zq_p zk_K 242 (zk_P sh) V (some (zg_i (zt_fw (fun k => V 228 k - 1) 31 1 : Nat))) = Q
  refine zg_enter 2 (by decide) (Nat.le_of_ble_eq_true rfl) rfl ?_
  refine zg_iconst zd_Ref_waiting_0 ?_
  refine zg_is1 zd_Ref_waiting_1 (fun w h => by cases h <;> rfl) (by decide) ?_
  refine zg_bipush zd_Ref_waiting_2 (by decide) ?_
  refine zg_is2 zd_Ref_waiting_4 (fun w h => by cases h <;> rfl) (by decide) ?_
  have key : ∀ (k : Nat) (hk31 : k ≤ 31), zg_G Γ (fun _ => True) zm_Ref_waiting (zg_rm 0 0 0) (zg_Ω Γ (Q) 0 0) 0 0 5 [some (zg_r Γ (223)), some (zg_i ((zt_fw (fun k => V 228 k - 1) (31 - k) (k + 1) : Nat))), some (zg_i ((k : Nat)))] [] zk_K 242 (zk_P sh) (V) := by
    intro k
    induction k with
    | zero =>
      intro _
      refine zg_il2 zd_Ref_waiting_5 ?_
      refine zg_if_le (tgt := 31) zd_Ref_waiting_6 (by decide) (by omega) (fun b6 => ?_) (fun b6 => ?_)
      · refine zg_il1 zd_Ref_waiting_31 ?_
        refine zg_ireturn zd_Ref_waiting_32 rfl ?_
        subst hQ; exact ⟨rfl, rfl, rfl, rfl, rfl⟩
      · omega
    | succ k ih =>
      intro hk31
      have ih := ih (by omega)
      have hkk := hk (k + 1) (by omega)
      rw [show 31 - k = 31 - (k + 1) + 1 by omega, zt_fw_s] at ih
      have ec : ((k + 1 : Nat) : Int) + -1 = (k : Int) := by omega
      refine zg_il2 zd_Ref_waiting_5 ?_
      refine zg_if_le (tgt := 31) zd_Ref_waiting_6 (by decide) (by omega) (fun b6 => ?_) (fun b6 => ?_)
      · omega
      · refine zg_al0 zd_Ref_waiting_9 ?_
        refine zg_getr zd_Ref_waiting_10 zf_649 (by omega) (by first | assumption | rfl) rfl (by first | assumption | rfl) ?_
        refine zg_il2 zd_Ref_waiting_13 ?_
        refine zg_iald zd_Ref_waiting_14 (by omega) (by first | assumption | rfl) rfl (by omega) (by decide) ?_
        refine zg_iconst zd_Ref_waiting_15 ?_
        refine zg_icmp_ne (tgt := 23) zd_Ref_waiting_16 (by decide) (by omega) (by omega) (fun b16 => ?_) (fun b16 => ?_)
        · refine zg_il1 zd_Ref_waiting_23 ?_
          refine zg_is1 zd_Ref_waiting_24 (fun w h => by cases h <;> rfl) (by decide) ?_
          refine zg_inc2 zd_Ref_waiting_25 (fun w h => by cases h <;> rfl) (by decide) ?_
          refine zg_goto (tgt := 5) zd_Ref_waiting_28 (by decide) ?_
          rw [ec]
          first
            | (rw [if_pos (show V 228 (k + 1) - 1 = 0 by omega)] at ih; exact ih)
            | (rw [if_neg (show ¬ V 228 (k + 1) - 1 = 0 by omega)] at ih; exact ih)
        · refine zg_il2 zd_Ref_waiting_19 ?_
          refine zg_goto (tgt := 24) zd_Ref_waiting_20 (by decide) ?_
          refine zg_is1 zd_Ref_waiting_24 (fun w h => by cases h <;> rfl) (by decide) ?_
          refine zg_inc2 zd_Ref_waiting_25 (fun w h => by cases h <;> rfl) (by decide) ?_
          refine zg_goto (tgt := 5) zd_Ref_waiting_28 (by decide) ?_
          rw [ec]
          first
            | (rw [if_pos (show V 228 (k + 1) - 1 = 0 by omega)] at ih; exact ih)
            | (rw [if_neg (show ¬ V 228 (k + 1) - 1 = 0 by omega)] at ih; exact ih)
  exact key 31 (Nat.le_refl 31)
def zr_dp (k : Int) : Int := if k < 2 then 0 else if k < 4 then 1 else if k < 8 then 2 else if k < 16 then 3 else 4
theorem cr_depth {k : Int} (hk : -2147483648 ≤ k ∧ k < 2147483648) : zg_S Γ zm_Ref_depthOf 0 0 0 [zg_i k] K N P V (zq_p K N P V (some (zg_i (zr_dp k)))) := by
  refine zg_enter 0 (by decide) (Nat.le_of_ble_eq_true rfl) rfl ?_
  refine zg_il0 zd_Ref_depthOf_0 ?_
  refine zg_bipush zd_Ref_depthOf_1 (by decide) ?_
  refine zg_icmp_lt (tgt := 10) zd_Ref_depthOf_3 (by decide) (by omega) (by omega) (fun b3 => ?_) (fun b3 => ?_)
  · refine zg_il0 zd_Ref_depthOf_10 ?_
    refine zg_bipush zd_Ref_depthOf_11 (by decide) ?_
    refine zg_icmp_lt (tgt := 20) zd_Ref_depthOf_13 (by decide) (by omega) (by omega) (fun b13 => ?_) (fun b13 => ?_)
    · refine zg_il0 zd_Ref_depthOf_20 ?_
      refine zg_iconst zd_Ref_depthOf_21 ?_
      refine zg_icmp_lt (tgt := 29) zd_Ref_depthOf_22 (by decide) (by omega) (by omega) (fun b22 => ?_) (fun b22 => ?_)
      · refine zg_il0 zd_Ref_depthOf_29 ?_
        refine zg_iconst zd_Ref_depthOf_30 ?_
        refine zg_icmp_lt (tgt := 38) zd_Ref_depthOf_31 (by decide) (by omega) (by omega) (fun b31 => ?_) (fun b31 => ?_)
        · refine zg_iconst zd_Ref_depthOf_38 ?_
          refine zg_ireturn zd_Ref_depthOf_39 rfl ?_
          refine ⟨?_, rfl, rfl, rfl, rfl⟩
          unfold zr_dp
          congr 2
          repeat' split
          all_goals omega
        · refine zg_iconst zd_Ref_depthOf_34 ?_
          refine zg_goto (tgt := 39) zd_Ref_depthOf_35 (by decide) ?_
          refine zg_ireturn zd_Ref_depthOf_39 rfl ?_
          refine ⟨?_, rfl, rfl, rfl, rfl⟩
          unfold zr_dp
          congr 2
          repeat' split
          all_goals omega
      · refine zg_iconst zd_Ref_depthOf_25 ?_
        refine zg_goto (tgt := 39) zd_Ref_depthOf_26 (by decide) ?_
        refine zg_ireturn zd_Ref_depthOf_39 rfl ?_
        refine ⟨?_, rfl, rfl, rfl, rfl⟩
        unfold zr_dp
        congr 2
        repeat' split
        all_goals omega
    · refine zg_iconst zd_Ref_depthOf_16 ?_
      refine zg_goto (tgt := 39) zd_Ref_depthOf_17 (by decide) ?_
      refine zg_ireturn zd_Ref_depthOf_39 rfl ?_
      refine ⟨?_, rfl, rfl, rfl, rfl⟩
      unfold zr_dp
      congr 2
      repeat' split
      all_goals omega
  · refine zg_iconst zd_Ref_depthOf_6 ?_
    refine zg_goto (tgt := 39) zd_Ref_depthOf_7 (by decide) ?_
    refine zg_ireturn zd_Ref_depthOf_39 rfl ?_
    refine ⟨?_, rfl, rfl, rfl, rfl⟩
    unfold zr_dp
    congr 2
    repeat' split
    all_goals omega
def zr_co (V : zg_V) (u tu ag : Int) : zg_V := zg_u (zg_u (zg_u V 223 26 ag) 223 24 u) 223 25 tu
theorem cr_consider {u tu ag : Int} (hu : -2147483648 ≤ u ∧ u < 2147483648) (htu : 0 ≤ tu ∧ tu ≤ 1) (hag : -1000 ≤ ag ∧ ag ≤ 1000) (h26 : -1000 ≤ V 223 26 ∧ V 223 26 ≤ 1000) (h24 : -2147483648 ≤ V 223 24 ∧ V 223 24 < 2147483648) (h25 : 0 ≤ V 223 25 ∧ V 223 25 ≤ 1) : zg_S Γ zm_Ref_consider 0 0 0 [zg_r Γ 223, zg_i u, zg_i tu, zg_i ag] zk_K 242 (zk_P sh) V (zq_p zk_K 242 (zk_P sh) (if V 223 26 < ag ∨ (ag = V 223 26 ∧ (u < V 223 24 ∨ (u = V 223 24 ∧ tu < V 223 25))) then zr_co V u tu ag else V) none) := by
  refine zg_enter 1 (by decide) (Nat.le_of_ble_eq_true rfl) rfl ?_
  refine zg_il3 zd_Ref_consider_0 ?_
  refine zg_al0 zd_Ref_consider_1 ?_
  refine zg_geti zd_Ref_consider_2 zf_667 (by omega) (by first | assumption | rfl) rfl ?_
  refine zg_icmp_gt (tgt := 40) zd_Ref_consider_5 (by decide) (by omega) (by omega) (fun b5 => ?_) (fun b5 => ?_)
  · refine zg_iconst zd_Ref_consider_40 ?_
    refine zg_goto (tgt := 45) zd_Ref_consider_41 (by decide) ?_
    refine zg_is4 zd_Ref_consider_45 (fun w h => by cases h <;> rfl) (by decide) ?_
    refine zg_il4 zd_Ref_consider_47 ?_
    refine zg_if_eq (tgt := 67) zd_Ref_consider_49 (by decide) (by omega) (fun b49 => ?_) (fun b49 => ?_)
    · refine zg_return zd_Ref_consider_67 rfl ?_
      first
      | omega
      | (rw [if_pos (by omega)]; exact ⟨rfl, rfl, rfl, rfl, rfl⟩)
      | (rw [if_neg (by omega)]; exact ⟨rfl, rfl, rfl, rfl, rfl⟩)
    · refine zg_al0 zd_Ref_consider_52 ?_
      refine zg_il3 zd_Ref_consider_53 ?_
      refine zg_puti zd_Ref_consider_54 zf_667 rfl (by omega) (by first | assumption | rfl) rfl ?_
      refine zg_al0 zd_Ref_consider_57 ?_
      refine zg_il1 zd_Ref_consider_58 ?_
      refine zg_puti zd_Ref_consider_59 zf_665 rfl (by omega) (by first | assumption | rfl) rfl ?_
      refine zg_al0 zd_Ref_consider_62 ?_
      refine zg_il2 zd_Ref_consider_63 ?_
      refine zg_puti zd_Ref_consider_64 zf_666 rfl (by omega) (by first | assumption | rfl) rfl ?_
      refine zg_return zd_Ref_consider_67 rfl ?_
      first
      | omega
      | (rw [if_pos (by omega)]; exact ⟨rfl, rfl, rfl, rfl, rfl⟩)
      | (rw [if_neg (by omega)]; exact ⟨rfl, rfl, rfl, rfl, rfl⟩)
  · refine zg_il3 zd_Ref_consider_8 ?_
    refine zg_al0 zd_Ref_consider_9 ?_
    refine zg_geti zd_Ref_consider_10 zf_667 (by omega) (by first | assumption | rfl) rfl ?_
    refine zg_icmp_ne (tgt := 44) zd_Ref_consider_13 (by decide) (by omega) (by omega) (fun b13 => ?_) (fun b13 => ?_)
    · refine zg_iconst zd_Ref_consider_44 ?_
      refine zg_is4 zd_Ref_consider_45 (fun w h => by cases h <;> rfl) (by decide) ?_
      refine zg_il4 zd_Ref_consider_47 ?_
      refine zg_if_eq (tgt := 67) zd_Ref_consider_49 (by decide) (by omega) (fun b49 => ?_) (fun b49 => ?_)
      · refine zg_return zd_Ref_consider_67 rfl ?_
        first
        | omega
        | (rw [if_pos (by omega)]; exact ⟨rfl, rfl, rfl, rfl, rfl⟩)
        | (rw [if_neg (by omega)]; exact ⟨rfl, rfl, rfl, rfl, rfl⟩)
      · refine zg_al0 zd_Ref_consider_52 ?_
        refine zg_il3 zd_Ref_consider_53 ?_
        refine zg_puti zd_Ref_consider_54 zf_667 rfl (by omega) (by first | assumption | rfl) rfl ?_
        refine zg_al0 zd_Ref_consider_57 ?_
        refine zg_il1 zd_Ref_consider_58 ?_
        refine zg_puti zd_Ref_consider_59 zf_665 rfl (by omega) (by first | assumption | rfl) rfl ?_
        refine zg_al0 zd_Ref_consider_62 ?_
        refine zg_il2 zd_Ref_consider_63 ?_
        refine zg_puti zd_Ref_consider_64 zf_666 rfl (by omega) (by first | assumption | rfl) rfl ?_
        refine zg_return zd_Ref_consider_67 rfl ?_
        first
        | omega
        | (rw [if_pos (by omega)]; exact ⟨rfl, rfl, rfl, rfl, rfl⟩)
        | (rw [if_neg (by omega)]; exact ⟨rfl, rfl, rfl, rfl, rfl⟩)
    · refine zg_il1 zd_Ref_consider_16 ?_
      refine zg_al0 zd_Ref_consider_17 ?_
      refine zg_geti zd_Ref_consider_18 zf_665 (by omega) (by first | assumption | rfl) rfl ?_
      refine zg_icmp_lt (tgt := 40) zd_Ref_consider_21 (by decide) (by omega) (by omega) (fun b21 => ?_) (fun b21 => ?_)
      · refine zg_iconst zd_Ref_consider_40 ?_
        refine zg_goto (tgt := 45) zd_Ref_consider_41 (by decide) ?_
        refine zg_is4 zd_Ref_consider_45 (fun w h => by cases h <;> rfl) (by decide) ?_
        refine zg_il4 zd_Ref_consider_47 ?_
        refine zg_if_eq (tgt := 67) zd_Ref_consider_49 (by decide) (by omega) (fun b49 => ?_) (fun b49 => ?_)
        · refine zg_return zd_Ref_consider_67 rfl ?_
          first
          | omega
          | (rw [if_pos (by omega)]; exact ⟨rfl, rfl, rfl, rfl, rfl⟩)
          | (rw [if_neg (by omega)]; exact ⟨rfl, rfl, rfl, rfl, rfl⟩)
        · refine zg_al0 zd_Ref_consider_52 ?_
          refine zg_il3 zd_Ref_consider_53 ?_
          refine zg_puti zd_Ref_consider_54 zf_667 rfl (by omega) (by first | assumption | rfl) rfl ?_
          refine zg_al0 zd_Ref_consider_57 ?_
          refine zg_il1 zd_Ref_consider_58 ?_
          refine zg_puti zd_Ref_consider_59 zf_665 rfl (by omega) (by first | assumption | rfl) rfl ?_
          refine zg_al0 zd_Ref_consider_62 ?_
          refine zg_il2 zd_Ref_consider_63 ?_
          refine zg_puti zd_Ref_consider_64 zf_666 rfl (by omega) (by first | assumption | rfl) rfl ?_
          refine zg_return zd_Ref_consider_67 rfl ?_
          first
          | omega
          | (rw [if_pos (by omega)]; exact ⟨rfl, rfl, rfl, rfl, rfl⟩)
          | (rw [if_neg (by omega)]; exact ⟨rfl, rfl, rfl, rfl, rfl⟩)
      · refine zg_il1 zd_Ref_consider_24 ?_
        refine zg_al0 zd_Ref_consider_25 ?_
        refine zg_geti zd_Ref_consider_26 zf_665 (by omega) (by first | assumption | rfl) rfl ?_
        refine zg_icmp_ne (tgt := 44) zd_Ref_consider_29 (by decide) (by omega) (by omega) (fun b29 => ?_) (fun b29 => ?_)
        · refine zg_iconst zd_Ref_consider_44 ?_
          refine zg_is4 zd_Ref_consider_45 (fun w h => by cases h <;> rfl) (by decide) ?_
          refine zg_il4 zd_Ref_consider_47 ?_
          refine zg_if_eq (tgt := 67) zd_Ref_consider_49 (by decide) (by omega) (fun b49 => ?_) (fun b49 => ?_)
          · refine zg_return zd_Ref_consider_67 rfl ?_
            first
            | omega
            | (rw [if_pos (by omega)]; exact ⟨rfl, rfl, rfl, rfl, rfl⟩)
            | (rw [if_neg (by omega)]; exact ⟨rfl, rfl, rfl, rfl, rfl⟩)
          · refine zg_al0 zd_Ref_consider_52 ?_
            refine zg_il3 zd_Ref_consider_53 ?_
            refine zg_puti zd_Ref_consider_54 zf_667 rfl (by omega) (by first | assumption | rfl) rfl ?_
            refine zg_al0 zd_Ref_consider_57 ?_
            refine zg_il1 zd_Ref_consider_58 ?_
            refine zg_puti zd_Ref_consider_59 zf_665 rfl (by omega) (by first | assumption | rfl) rfl ?_
            refine zg_al0 zd_Ref_consider_62 ?_
            refine zg_il2 zd_Ref_consider_63 ?_
            refine zg_puti zd_Ref_consider_64 zf_666 rfl (by omega) (by first | assumption | rfl) rfl ?_
            refine zg_return zd_Ref_consider_67 rfl ?_
            first
            | omega
            | (rw [if_pos (by omega)]; exact ⟨rfl, rfl, rfl, rfl, rfl⟩)
            | (rw [if_neg (by omega)]; exact ⟨rfl, rfl, rfl, rfl, rfl⟩)
        · refine zg_il2 zd_Ref_consider_32 ?_
          refine zg_al0 zd_Ref_consider_33 ?_
          refine zg_geti zd_Ref_consider_34 zf_666 (by omega) (by first | assumption | rfl) rfl ?_
          refine zg_icmp_ge (tgt := 44) zd_Ref_consider_37 (by decide) (by omega) (by omega) (fun b37 => ?_) (fun b37 => ?_)
          · refine zg_iconst zd_Ref_consider_44 ?_
            refine zg_is4 zd_Ref_consider_45 (fun w h => by cases h <;> rfl) (by decide) ?_
            refine zg_il4 zd_Ref_consider_47 ?_
            refine zg_if_eq (tgt := 67) zd_Ref_consider_49 (by decide) (by omega) (fun b49 => ?_) (fun b49 => ?_)
            · refine zg_return zd_Ref_consider_67 rfl ?_
              first
              | omega
              | (rw [if_pos (by omega)]; exact ⟨rfl, rfl, rfl, rfl, rfl⟩)
              | (rw [if_neg (by omega)]; exact ⟨rfl, rfl, rfl, rfl, rfl⟩)
            · refine zg_al0 zd_Ref_consider_52 ?_
              refine zg_il3 zd_Ref_consider_53 ?_
              refine zg_puti zd_Ref_consider_54 zf_667 rfl (by omega) (by first | assumption | rfl) rfl ?_
              refine zg_al0 zd_Ref_consider_57 ?_
              refine zg_il1 zd_Ref_consider_58 ?_
              refine zg_puti zd_Ref_consider_59 zf_665 rfl (by omega) (by first | assumption | rfl) rfl ?_
              refine zg_al0 zd_Ref_consider_62 ?_
              refine zg_il2 zd_Ref_consider_63 ?_
              refine zg_puti zd_Ref_consider_64 zf_666 rfl (by omega) (by first | assumption | rfl) rfl ?_
              refine zg_return zd_Ref_consider_67 rfl ?_
              first
              | omega
              | (rw [if_pos (by omega)]; exact ⟨rfl, rfl, rfl, rfl, rfl⟩)
              | (rw [if_neg (by omega)]; exact ⟨rfl, rfl, rfl, rfl, rfl⟩)
          · refine zg_iconst zd_Ref_consider_40 ?_
            refine zg_goto (tgt := 45) zd_Ref_consider_41 (by decide) ?_
            refine zg_is4 zd_Ref_consider_45 (fun w h => by cases h <;> rfl) (by decide) ?_
            refine zg_il4 zd_Ref_consider_47 ?_
            refine zg_if_eq (tgt := 67) zd_Ref_consider_49 (by decide) (by omega) (fun b49 => ?_) (fun b49 => ?_)
            · refine zg_return zd_Ref_consider_67 rfl ?_
              first
              | omega
              | (rw [if_pos (by omega)]; exact ⟨rfl, rfl, rfl, rfl, rfl⟩)
              | (rw [if_neg (by omega)]; exact ⟨rfl, rfl, rfl, rfl, rfl⟩)
            · refine zg_al0 zd_Ref_consider_52 ?_
              refine zg_il3 zd_Ref_consider_53 ?_
              refine zg_puti zd_Ref_consider_54 zf_667 rfl (by omega) (by first | assumption | rfl) rfl ?_
              refine zg_al0 zd_Ref_consider_57 ?_
              refine zg_il1 zd_Ref_consider_58 ?_
              refine zg_puti zd_Ref_consider_59 zf_665 rfl (by omega) (by first | assumption | rfl) rfl ?_
              refine zg_al0 zd_Ref_consider_62 ?_
              refine zg_il2 zd_Ref_consider_63 ?_
              refine zg_puti zd_Ref_consider_64 zf_666 rfl (by omega) (by first | assumption | rfl) rfl ?_
              refine zg_return zd_Ref_consider_67 rfl ?_
              first
              | omega
              | (rw [if_pos (by omega)]; exact ⟨rfl, rfl, rfl, rfl, rfl⟩)
              | (rw [if_neg (by omega)]; exact ⟨rfl, rfl, rfl, rfl, rfl⟩)
theorem cr_gain {sl sr n : Nat} {cr : Int} (hsl : sl < 65536) (hsr : sr < 65536) (hT : zr_T V n) (hcr : V 223 5 = cr) (hcrb : 0 ≤ cr ∧ cr ≤ 2) (hun : ∀ c, c < 4 → zt_ms (V 225) (V 226) (sl ||| sr) n c = zt_ms (V 225) (V 226) sl n c + zt_ms (V 225) (V 226) sr n c) : zg_S Γ zm_Ref_gainOf 4 0 0 [zg_r Γ 223, zg_i sl, zg_i sr] zk_K 242 (zk_P sh) V (zq_p zk_K 242 (zk_P sh) (zr_g V (zx_top cr (zt_ms (V 225) (V 226) sl n) (zt_ms (V 225) (V 226) sr n) (zt_w (V 226) sl n) (zt_w (V 226) sr n)) (zx_bot cr (zt_w (V 226) sl n) (zt_w (V 226) sr n))) none) := by
  have hor : sl ||| sr < 65536 := Nat.or_lt_two_pow (n := 16) hsl hsr
  generalize hx : zt_ms (V 225) (V 226) sl n = x at *
  generalize hy : zt_ms (V 225) (V 226) sr n = y at *
  generalize hl : zt_w (V 226) sl n = l at *
  generalize hr : zt_w (V 226) sr n = r at *
  have hlb : 0 ≤ l ∧ l ≤ 16 := by rw [← hl]; exact zr_w_16 hT _
  have hrb : 0 ≤ r ∧ r ≤ 16 := by rw [← hr]; exact zr_w_16 hT _
  have hxb : ∀ c, 0 ≤ x c ∧ x c ≤ 16 := fun c => by rw [← hx]; exact zr_w_16 hT _
  have hyb : ∀ c, 0 ≤ y c ∧ y c ≤ 16 := fun c => by rw [← hy]; exact zr_w_16 hT _
  have hbx : ∀ c, c < 4 → (0 ≤ x c ∧ x c ≤ 16) ∧ (0 ≤ y c ∧ y c ≤ 16) := fun c _ => ⟨hxb c, hyb c⟩
  generalize hQ : zq_p zk_K 242 (zk_P sh) (zr_g V (zx_top cr x y l r) (zx_bot cr l r)) none = Q
  refine zg_enter 7 (by decide) (Nat.le_of_ble_eq_true rfl) rfl ?_
  have hTg : ∀ T B : Int, zr_T (zg_u (zg_u V 223 15 T) 223 16 B) n := fun T B => by
    obtain ⟨h1, h2, h3, h4, h5, h6⟩ := hT
    refine ⟨?_, h2, fun r f a b => ?_, fun r a => ?_, fun r a => ?_, ?_⟩
    · rw [zg_u_off _ _ _ _ (by decide), zg_u_off _ _ _ _ (by decide)]; exact h1
    · rw [zg_u_out _ _ _ _ (by decide), zg_u_out _ _ _ _ (by decide)]; exact h3 r f a b
    · rw [zg_u_out _ _ _ _ (by decide), zg_u_out _ _ _ _ (by decide)]; exact h4 r a
    · rw [zg_u_out _ _ _ _ (by decide), zg_u_out _ _ _ _ (by decide)]; exact h5 r a
    · rw [zg_u_out _ _ _ _ (by decide), zg_u_out _ _ _ _ (by decide)]; exact h6
  have h1 : cr = 1 → zg_G Γ (fun _ => True) zm_Ref_gainOf (zg_rm 4 0 0) (zg_Ω Γ (Q) 0 0) 0 0 15 [some (zg_r Γ (223)), some (zg_i (sl)), some (zg_i (sr)), some (zg_i (l)), some (zg_i (r)), none, none, none, none, none] [] zk_K 242 (zk_P sh) (V) := by
    intro e
    subst e
    have q1 : zx_mx x 4 = zx_mx (zt_ms (V 225) (V 226) sl n) 4 := by rw [hx]
    have q2 : zx_mx y 4 = zx_mx (zt_ms (V 225) (V 226) sr n) 4 := by rw [hy]
    have q3 : zx_mx (zt_ms (V 225) (V 226) (sl ||| sr) n) 4 = zx_mx (fun c => x c + y c) 4 := by
      exact zx_mx_c (fun i hi => hun i hi)
    refine zg_al0 zd_Ref_gainOf_15 ?_
    refine zg_geti zd_Ref_gainOf_16 zf_646 (by omega) (by first | assumption | rfl) rfl ?_
    rw [hcr]
    refine zg_iconst zd_Ref_gainOf_19 ?_
    refine zg_icmp_ne (tgt := 52) zd_Ref_gainOf_20 (by decide) (by omega) (by omega) (fun b20 => ?_) (fun b20 => ?_)
    · omega
    · refine zg_al0 zd_Ref_gainOf_23 ?_
      refine zg_al0 zd_Ref_gainOf_24 ?_
      refine zg_il1 zd_Ref_gainOf_25 ?_
      refine zg_cVp1 zd_Ref_gainOf_26 zM_Ref_greatest zw_816 zi_Ref_greatest zs_Ref_greatest (cr_greatest hsl hT) (by decide) (by decide) (by omega) (by first | assumption | rfl) (by decide) rfl (Nat.le_of_ble_eq_true rfl) ?_
      refine zg_al0 zd_Ref_gainOf_29 ?_
      refine zg_il2 zd_Ref_gainOf_30 ?_
      refine zg_cVp1 zd_Ref_gainOf_31 zM_Ref_greatest zw_816 zi_Ref_greatest zs_Ref_greatest (cr_greatest hsr hT) (by decide) (by decide) (by omega) (by first | assumption | rfl) (by decide) rfl (Nat.le_of_ble_eq_true rfl) ?_
      refine zg_iadd zd_Ref_gainOf_34 ?_
      refine zg_al0 zd_Ref_gainOf_35 ?_
      refine zg_il1 zd_Ref_gainOf_36 ?_
      refine zg_il2 zd_Ref_gainOf_37 ?_
      refine zg_ior ((sl ||| sr : Nat) : Int) zd_Ref_gainOf_38 (zb_or _ _) ?_
      refine zg_cVp1 zd_Ref_gainOf_39 zM_Ref_greatest zw_816 zi_Ref_greatest zs_Ref_greatest (cr_greatest hor hT) (by decide) (by decide) (by omega) (by first | assumption | rfl) (by decide) rfl (Nat.le_of_ble_eq_true rfl) ?_
      refine zg_isub zd_Ref_gainOf_42 ?_
      refine zg_puti zd_Ref_gainOf_43 zf_656 rfl (by omega) (by first | assumption | rfl) rfl ?_
      refine zg_al0 zd_Ref_gainOf_46 ?_
      refine zg_iconst zd_Ref_gainOf_47 ?_
      refine zg_puti zd_Ref_gainOf_48 zf_657 rfl (by omega) (by first | assumption | rfl) rfl ?_
      refine zg_return zd_Ref_gainOf_51 rfl ?_
      subst hQ
      refine ⟨rfl, rfl, rfl, rfl, ?_⟩
      unfold zr_g zx_top zx_bot
      rw [if_neg (by decide), if_pos rfl, if_pos rfl, q1, q2, ← q3]
  have h2 : cr ≠ 1 → zg_G Γ (fun _ => True) zm_Ref_gainOf (zg_rm 4 0 0) (zg_Ω Γ (Q) 0 0) 0 0 15 [some (zg_r Γ (223)), some (zg_i (sl)), some (zg_i (sr)), some (zg_i (l)), some (zg_i (r)), none, none, none, none, none] [] zk_K 242 (zk_P sh) (V) := by
    intro hne
    generalize hB : (l + r) * l * r = B
    have hBe : zx_bot cr l r = B := by unfold zx_bot; rw [if_neg hne, ← hB, Int.mul_assoc]
    -- in the loop: top so far, sum so far
    have loop : ∀ (j c : Nat) (o7 o8 o9 : Option Value) (S : Int) (hij : c + j = 4) (hS : S = if cr = 0 then 0 else zs_sum (fun c => zx_ab (x c * r - y c * l)) c) (ho7 : ∀ w, o7 = some w → w.category = 1) (ho8 : ∀ w, o8 = some w → w.category = 1), zg_G Γ (fun _ => True) zm_Ref_gainOf (zg_rm 4 0 0) (zg_Ω Γ (Q) 0 0) 0 0 76 [some (zg_r Γ (223)), some (zg_i (sl)), some (zg_i (sr)), some (zg_i (l)), some (zg_i (r)), some (zg_i (S)), some (zg_i ((c : Nat))), o7, o8, o9] [] zk_K 242 (zk_P sh) (zg_u (zg_u V 223 15 (if cr = 0 then zs_sum (fun c => (x c * r - y c * l) * (x c * r - y c * l)) c else 0)) 223 16 B) := by
      intro j
      induction j with
      | zero =>
        intro c o7 o8 o9 S hij hS ho7 ho8
        have e : c = 4 := by omega
        subst e
        have g5 : ∀ T : Int, zg_u (zg_u V 223 15 T) 223 16 B 223 5 = cr := fun T => by rw [zg_u_off _ _ _ _ (by decide), zg_u_off _ _ _ _ (by decide)]; exact hcr
        have g15 : ∀ T : Int, zg_u (zg_u V 223 15 T) 223 16 B 223 15 = T := fun T => by rw [zg_u_off _ _ _ _ (by decide), zg_u_in]
        by_cases h0 : cr = 0
        · rw [if_pos h0] at hS ⊢
          refine zg_il6 zd_Ref_gainOf_76 ?_
          refine zg_iconst zd_Ref_gainOf_78 ?_
          refine zg_icmp_ge (tgt := 198) zd_Ref_gainOf_79 (by decide) (by omega) (by omega) (fun b79 => ?_) (fun b79 => ?_)
          · refine zg_al0 zd_Ref_gainOf_198 ?_
            refine zg_al0 zd_Ref_gainOf_199 ?_
            refine zg_geti zd_Ref_gainOf_200 zf_646 (by omega) (by first | assumption | rfl) rfl ?_
            rw [g5]
            refine zg_if_ne (tgt := 213) zd_Ref_gainOf_203 (by decide) (by omega) (fun b203 => ?_) (fun b203 => ?_)
            · omega
            · refine zg_al0 zd_Ref_gainOf_206 ?_
              refine zg_geti zd_Ref_gainOf_207 zf_656 (by omega) (by first | assumption | rfl) rfl ?_
              rw [g15]
              refine zg_goto (tgt := 218) zd_Ref_gainOf_210 (by decide) ?_
              refine zg_puti zd_Ref_gainOf_218 zf_656 rfl (by omega) (by first | assumption | rfl) rfl ?_
              refine zg_return zd_Ref_gainOf_221 rfl ?_
              subst hQ
              refine ⟨rfl, rfl, rfl, rfl, ?_⟩
              rw [zr_g_t]
              unfold zr_g
              rw [hBe]
              unfold zx_top
              rw [if_pos h0]
          · omega
        · rw [if_neg h0] at hS ⊢
          refine zg_il6 zd_Ref_gainOf_76 ?_
          refine zg_iconst zd_Ref_gainOf_78 ?_
          refine zg_icmp_ge (tgt := 198) zd_Ref_gainOf_79 (by decide) (by omega) (by omega) (fun b79 => ?_) (fun b79 => ?_)
          · refine zg_al0 zd_Ref_gainOf_198 ?_
            refine zg_al0 zd_Ref_gainOf_199 ?_
            refine zg_geti zd_Ref_gainOf_200 zf_646 (by omega) (by first | assumption | rfl) rfl ?_
            rw [g5]
            refine zg_if_ne (tgt := 213) zd_Ref_gainOf_203 (by decide) (by omega) (fun b203 => ?_) (fun b203 => ?_)
            · refine zg_il5 zd_Ref_gainOf_213 ?_
              refine zg_il5 zd_Ref_gainOf_215 ?_
              refine zg_imul zd_Ref_gainOf_217 ?_
              refine zg_puti zd_Ref_gainOf_218 zf_656 rfl (by omega) (by first | assumption | rfl) rfl ?_
              refine zg_return zd_Ref_gainOf_221 rfl ?_
              subst hQ
              refine ⟨rfl, rfl, rfl, rfl, ?_⟩
              rw [zr_g_t]
              unfold zr_g
              rw [hBe]
              unfold zx_top
              rw [if_neg h0, if_neg hne, hS]
            · omega
          · omega
      | succ j ih =>
        intro c o7 o8 o9 S hij hS ho7 ho8
        generalize hTc : (if cr = 0 then zs_sum (fun c => (x c * r - y c * l) * (x c * r - y c * l)) c else 0) = T
        have hTW := hTg T B
        have g5 : zg_u (zg_u V 223 15 T) 223 16 B 223 5 = cr := by rw [zg_u_off _ _ _ _ (by decide), zg_u_off _ _ _ _ (by decide)]; exact hcr
        have g15 : zg_u (zg_u V 223 15 T) 223 16 B 223 15 = T := by rw [zg_u_off _ _ _ _ (by decide), zg_u_in]
        have m1 : zt_ms (zg_u (zg_u V 223 15 T) 223 16 B 225) (zg_u (zg_u V 223 15 T) 223 16 B 226) sl n c = x c := by
          rw [zg_u_out _ _ _ _ (by decide), zg_u_out _ _ _ _ (by decide), zg_u_out _ _ _ _ (by decide), zg_u_out _ _ _ _ (by decide), hx]
        have m2 : zt_ms (zg_u (zg_u V 223 15 T) 223 16 B 225) (zg_u (zg_u V 223 15 T) 223 16 B 226) sr n c = y c := by
          rw [zg_u_out _ _ _ _ (by decide), zg_u_out _ _ _ _ (by decide), zg_u_out _ _ _ _ (by decide), zg_u_out _ _ _ _ (by decide), hy]
        have db := zx_d_b (hxb c) (hyb c) hlb hrb
        have ih0 : cr = 0 → zg_G Γ (fun _ => True) zm_Ref_gainOf (zg_rm 4 0 0) (zg_Ω Γ (Q) 0 0) 0 0 76 [some (zg_r Γ (223)), some (zg_i (sl)), some (zg_i (sr)), some (zg_i (l)), some (zg_i (r)), some (zg_i (S)), some (zg_i (((c : Nat) : Int) + 1)), some (zg_i (x c)), some (zg_i (y c)), o9] [] zk_K 242 (zk_P sh) (zg_u (zg_u V 223 15 (T + (x c * r - y c * l) * (x c * r - y c * l))) 223 16 B) := fun h0 => by
          have := ih (c + 1) (some (zg_i (x c))) (some (zg_i (y c))) o9 S (by omega) (by rw [hS, if_pos h0, if_pos h0]) (fun w hw => by cases hw; rfl) (fun w hw => by cases hw; rfl)
          rw [if_pos h0, zs_sum_s] at this
          rw [if_pos h0] at hTc
          rw [hTc] at this
          exact this
        have ih1 : ¬ cr = 0 → zg_G Γ (fun _ => True) zm_Ref_gainOf (zg_rm 4 0 0) (zg_Ω Γ (Q) 0 0) 0 0 76 [some (zg_r Γ (223)), some (zg_i (sl)), some (zg_i (sr)), some (zg_i (l)), some (zg_i (r)), some (zg_i (S + zx_ab (x c * r - y c * l))), some (zg_i (((c : Nat) : Int) + 1)), some (zg_i (x c)), some (zg_i (y c)), some (zg_i (x c * r - y c * l))] [] zk_K 242 (zk_P sh) (zg_u (zg_u V 223 15 T) 223 16 B) := fun h0 => by
          have := ih (c + 1) (some (zg_i (x c))) (some (zg_i (y c))) (some (zg_i (x c * r - y c * l))) (S + zx_ab (x c * r - y c * l)) (by omega) (by rw [hS, if_neg h0, if_neg h0, zs_sum_s]) (fun w hw => by cases hw; rfl) (fun w hw => by cases hw; rfl)
          rw [if_neg h0] at this
          rw [if_neg h0] at hTc
          rw [hTc] at this
          exact this
        refine zg_il6 zd_Ref_gainOf_76 ?_
        refine zg_iconst zd_Ref_gainOf_78 ?_
        refine zg_icmp_ge (tgt := 198) zd_Ref_gainOf_79 (by decide) (by omega) (by omega) (fun b79 => ?_) (fun b79 => ?_)
        · omega
        · refine zg_al0 zd_Ref_gainOf_82 ?_
          refine zg_il1 zd_Ref_gainOf_83 ?_
          refine zg_il6 zd_Ref_gainOf_84 ?_
          refine zg_cVp2 zd_Ref_gainOf_86 zM_Ref_weigh zw_808 zi_Ref_weigh zs_Ref_weigh (cr_weigh hsl (by omega) hTW) (by decide) (by decide) (by omega) (by first | assumption | rfl) (by decide) rfl (Nat.le_of_ble_eq_true rfl) ?_
          rw [m1]
          refine zg_is7 zd_Ref_gainOf_89 (fun w h => by cases h <;> rfl) (by decide) ?_
          refine zg_al0 zd_Ref_gainOf_91 ?_
          refine zg_il2 zd_Ref_gainOf_92 ?_
          refine zg_il6 zd_Ref_gainOf_93 ?_
          refine zg_cVp2 zd_Ref_gainOf_95 zM_Ref_weigh zw_808 zi_Ref_weigh zs_Ref_weigh (cr_weigh hsr (by omega) hTW) (by decide) (by decide) (by omega) (by first | assumption | rfl) (by decide) rfl (Nat.le_of_ble_eq_true rfl) ?_
          rw [m2]
          refine zg_is8 zd_Ref_gainOf_98 (fun w h => by cases h <;> rfl) (by decide) ?_
          refine zg_al0 zd_Ref_gainOf_100 ?_
          refine zg_geti zd_Ref_gainOf_101 zf_646 (by omega) (by first | assumption | rfl) rfl ?_
          rw [g5]
          refine zg_if_ne (tgt := 162) zd_Ref_gainOf_104 (by decide) (by omega) (fun b104 => ?_) (fun b104 => ?_)
          · refine zg_il7 zd_Ref_gainOf_162 ?_
            refine zg_il4 zd_Ref_gainOf_164 ?_
            refine zg_imul zd_Ref_gainOf_166 ?_
            refine zg_il8 zd_Ref_gainOf_167 ?_
            refine zg_il3 zd_Ref_gainOf_169 ?_
            refine zg_imul zd_Ref_gainOf_170 ?_
            refine zg_isub zd_Ref_gainOf_171 ?_
            refine zg_is9 zd_Ref_gainOf_172 (fun w h => by cases h <;> rfl) (by decide) ?_
            refine zg_il5 zd_Ref_gainOf_174 ?_
            refine zg_il9 zd_Ref_gainOf_176 ?_
            refine zg_if_ge (tgt := 187) zd_Ref_gainOf_178 (by decide) (by omega) (fun b178 => ?_) (fun b178 => ?_)
            · refine zg_il9 zd_Ref_gainOf_187 ?_
              refine zg_iadd zd_Ref_gainOf_189 ?_
              refine zg_is5 zd_Ref_gainOf_190 (fun w h => by cases h <;> rfl) (by decide) ?_
              refine zg_inc6 zd_Ref_gainOf_192 (fun w h => by cases h <;> rfl) (by decide) ?_
              refine zg_goto (tgt := 76) zd_Ref_gainOf_195 (by decide) ?_
              first
              | exact ih0 b104
              | (have h := ih1 b104
                 unfold zx_ab at h
                 first
                   | (rw [if_pos b178] at h; exact h)
                   | (rw [if_neg b178] at h; exact h))
            · refine zg_il9 zd_Ref_gainOf_181 ?_
              refine zg_ineg zd_Ref_gainOf_183 ?_
              refine zg_goto (tgt := 189) zd_Ref_gainOf_184 (by decide) ?_
              refine zg_iadd zd_Ref_gainOf_189 ?_
              refine zg_is5 zd_Ref_gainOf_190 (fun w h => by cases h <;> rfl) (by decide) ?_
              refine zg_inc6 zd_Ref_gainOf_192 (fun w h => by cases h <;> rfl) (by decide) ?_
              refine zg_goto (tgt := 76) zd_Ref_gainOf_195 (by decide) ?_
              first
              | exact ih0 b104
              | (have h := ih1 b104
                 unfold zx_ab at h
                 first
                   | (rw [if_pos b178] at h; exact h)
                   | (rw [if_neg b178] at h; exact h))
          · refine zg_al0 zd_Ref_gainOf_107 ?_
            refine zg_dup zd_Ref_gainOf_108 rfl ?_
            refine zg_geti zd_Ref_gainOf_109 zf_656 (by omega) (by first | assumption | rfl) rfl ?_
            rw [g15]
            refine zg_il7 zd_Ref_gainOf_112 ?_
            refine zg_il7 zd_Ref_gainOf_114 ?_
            refine zg_imul zd_Ref_gainOf_116 ?_
            refine zg_il3 zd_Ref_gainOf_117 ?_
            refine zg_il4 zd_Ref_gainOf_118 ?_
            refine zg_iadd zd_Ref_gainOf_120 ?_
            refine zg_imul zd_Ref_gainOf_121 ?_
            refine zg_il4 zd_Ref_gainOf_122 ?_
            refine zg_imul zd_Ref_gainOf_124 ?_
            refine zg_il8 zd_Ref_gainOf_125 ?_
            refine zg_il8 zd_Ref_gainOf_127 ?_
            refine zg_imul zd_Ref_gainOf_129 ?_
            refine zg_il3 zd_Ref_gainOf_130 ?_
            refine zg_il4 zd_Ref_gainOf_131 ?_
            refine zg_iadd zd_Ref_gainOf_133 ?_
            refine zg_imul zd_Ref_gainOf_134 ?_
            refine zg_il3 zd_Ref_gainOf_135 ?_
            refine zg_imul zd_Ref_gainOf_136 ?_
            refine zg_iadd zd_Ref_gainOf_137 ?_
            refine zg_il7 zd_Ref_gainOf_138 ?_
            refine zg_il8 zd_Ref_gainOf_140 ?_
            refine zg_iadd zd_Ref_gainOf_142 ?_
            refine zg_il7 zd_Ref_gainOf_143 ?_
            refine zg_il8 zd_Ref_gainOf_145 ?_
            refine zg_iadd zd_Ref_gainOf_147 ?_
            refine zg_imul zd_Ref_gainOf_148 ?_
            refine zg_il3 zd_Ref_gainOf_149 ?_
            refine zg_imul zd_Ref_gainOf_150 ?_
            refine zg_il4 zd_Ref_gainOf_151 ?_
            refine zg_imul zd_Ref_gainOf_153 ?_
            refine zg_isub zd_Ref_gainOf_154 ?_
            refine zg_iadd zd_Ref_gainOf_155 ?_
            rw [zx_id']
            refine zg_puti zd_Ref_gainOf_156 zf_656 rfl (by omega) (by first | assumption | rfl) rfl ?_
            rw [zr_g_t]
            refine zg_goto (tgt := 192) zd_Ref_gainOf_159 (by decide) ?_
            refine zg_inc6 zd_Ref_gainOf_192 (fun w h => by cases h <;> rfl) (by decide) ?_
            refine zg_goto (tgt := 76) zd_Ref_gainOf_195 (by decide) ?_
            first
            | exact ih0 b104
            | (have h := ih1 b104
               unfold zx_ab at h
               first
                 | (rw [if_pos b178] at h; exact h)
                 | (rw [if_neg b178] at h; exact h))
    have hz : (if cr = 0 then zs_sum (fun c => (x c * r - y c * l) * (x c * r - y c * l)) 0 else 0) = (0 : Int) := by split <;> rfl
    have lp := loop 4 0 none none none 0 (by omega) (by split <;> rfl) (fun w h => by cases h) (fun w h => by cases h)
    rw [hz] at lp
    refine zg_al0 zd_Ref_gainOf_15 ?_
    refine zg_geti zd_Ref_gainOf_16 zf_646 (by omega) (by first | assumption | rfl) rfl ?_
    rw [hcr]
    refine zg_iconst zd_Ref_gainOf_19 ?_
    refine zg_icmp_ne (tgt := 52) zd_Ref_gainOf_20 (by decide) (by omega) (by omega) (fun b20 => ?_) (fun b20 => ?_)
    · refine zg_al0 zd_Ref_gainOf_52 ?_
      refine zg_iconst zd_Ref_gainOf_53 ?_
      refine zg_puti zd_Ref_gainOf_54 zf_656 rfl (by omega) (by first | assumption | rfl) rfl ?_
      refine zg_al0 zd_Ref_gainOf_57 ?_
      refine zg_il3 zd_Ref_gainOf_58 ?_
      refine zg_il4 zd_Ref_gainOf_59 ?_
      refine zg_iadd zd_Ref_gainOf_61 ?_
      refine zg_il3 zd_Ref_gainOf_62 ?_
      refine zg_imul zd_Ref_gainOf_63 ?_
      refine zg_il4 zd_Ref_gainOf_64 ?_
      refine zg_imul zd_Ref_gainOf_66 ?_
      rw [hB]
      refine zg_puti zd_Ref_gainOf_67 zf_657 rfl (by omega) (by first | assumption | rfl) rfl ?_
      refine zg_iconst zd_Ref_gainOf_70 ?_
      refine zg_is5 zd_Ref_gainOf_71 (fun w h => by cases h <;> rfl) (by decide) ?_
      refine zg_iconst zd_Ref_gainOf_73 ?_
      refine zg_is6 zd_Ref_gainOf_74 (fun w h => by cases h <;> rfl) (by decide) ?_
      exact lp
    · omega
  refine zg_al0 zd_Ref_gainOf_0 ?_
  refine zg_il1 zd_Ref_gainOf_1 ?_
  refine zg_iconst zd_Ref_gainOf_2 ?_
  refine zg_cVp2 zd_Ref_gainOf_3 zM_Ref_weigh zw_808 zi_Ref_weigh zs_Ref_weigh (cr_weighA hsl hT) (by decide) (by decide) (by omega) (by first | assumption | rfl) (by decide) rfl (Nat.le_of_ble_eq_true rfl) ?_
  rw [hl]
  refine zg_is3 zd_Ref_gainOf_6 (fun w h => by cases h <;> rfl) (by decide) ?_
  refine zg_al0 zd_Ref_gainOf_7 ?_
  refine zg_il2 zd_Ref_gainOf_8 ?_
  refine zg_iconst zd_Ref_gainOf_9 ?_
  refine zg_cVp2 zd_Ref_gainOf_10 zM_Ref_weigh zw_808 zi_Ref_weigh zs_Ref_weigh (cr_weighA hsr hT) (by decide) (by decide) (by omega) (by first | assumption | rfl) (by decide) rfl (Nat.le_of_ble_eq_true rfl) ?_
  rw [hr]
  refine zg_is4 zd_Ref_gainOf_13 (fun w h => by cases h <;> rfl) (by decide) ?_
  by_cases e : cr = 1
  · exact h1 e
  · exact h2 e
end ZT21

