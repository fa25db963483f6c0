/-! the reference: cut -/
theorem zt_fw_0 {f : Nat → Int} : ∀ {m i : Nat}, 1 ≤ i → zt_fw f m i = 0 → ∀ k, i ≤ k → k < i + m → f k ≠ 0
  | 0, _, _, _, k, h1, h2 => by omega
  | m + 1, i, hi, h, k, h1, h2 => by
    rw [zt_fw_s] at h
    by_cases e : f i = 0
    · rw [if_pos e] at h; omega
    · rw [if_neg e] at h
      by_cases q : k = i
      · rw [q]; exact e
      · exact zt_fw_0 (by omega) h k (by omega) (by omega)
def zr_cn (V : zg_V) (n : Nat) (sr : Nat → Nat) (i : Nat) : Int := if zr_kv V n sr ((i : Int) + 1) = 1 then 1 else 0
def zr_cv (V : zg_V) (p q : Int) : zg_V := zg_u (zg_u (zg_u V 223 12 (if 0 < q then 1 else 0)) 223 13 p) 223 14 q
section ZT39
variable {Γ : zg_C} {V : zg_V} {sh : Nat}
theorem cr_cut {n : Nat} {sr : Nat → Nat} {p q : Int} (hp : -2147483648 ≤ p ∧ p < 2147483648) (hq : -2147483648 ≤ q ∧ q < 2147483648) (hfb : zt_fw (fun k => V 228 k - 1) 31 1 < 32) (hI : zr_In V n sr) (hsc : zr_sc V) : zg_S Γ zm_Ref_cut 6 0 0 [zg_r Γ 223, zg_i p, zg_i q] zk_K 242 (zk_P sh) V (zq_r zk_K 242 (zk_P sh) (fun rr V' => if zt_fw (fun k => V 228 k - 1) 31 1 = 0 ∧ (0 ≤ p ∧ p ≤ 1000) ∧ (0 ≤ q ∧ q ≤ 1000) then rr = some (zg_i (zs_sum (zr_cn (zr_cv V p q) n sr) 31)) ∧ zr_qq (zr_cv V p q) V' else rr = some (zg_i (-1)) ∧ V' = V)) := by
  generalize hfw : zt_fw (fun k => V 228 k - 1) 31 1 = w at hfb
  generalize hQ : zq_r zk_K 242 (zk_P sh) (fun rr V' => if w = 0 ∧ (0 ≤ p ∧ p ≤ 1000) ∧ (0 ≤ q ∧ q ≤ 1000) then rr = some (zg_i (zs_sum (zr_cn (zr_cv V p q) n sr) 31)) ∧ zr_qq (zr_cv V p q) V' else rr = some (zg_i (-1)) ∧ V' = V) = Q
  refine zg_enter 2 (by decide) (Nat.le_of_ble_eq_true rfl) rfl ?_
  have body : w = 0 → (0 ≤ p ∧ p ≤ 1000) → (0 ≤ q ∧ q ≤ 1000) → ∀ V1 : zg_V, V1 = zr_cv V p q → zg_G Γ (fun _ => True) zm_Ref_cut (zg_rm 6 0 0) (zg_Ω Γ (Q) 0 0) 0 0 54 [some (zg_r Γ (223)), some (zg_i (p)), some (zg_i (q)), none, none] [] zk_K 242 (zk_P sh) (V1) := by
    intro hw hp1 hq1 V1 hV1
    have c12 : V1 223 12 = if 0 < q then 1 else 0 := by rw [hV1]; unfold zr_cv; rw [zg_u_off _ _ _ _ (by decide), zg_u_off _ _ _ _ (by decide), zg_u_in]
    have c13 : V1 223 13 = p := by rw [hV1]; unfold zr_cv; rw [zg_u_off _ _ _ _ (by decide), zg_u_in]
    have c14 : V1 223 14 = q := by rw [hV1]; unfold zr_cv; rw [zg_u_in]
    have co : ∀ j, j < 12 ∨ 14 < j → V1 223 j = V 223 j := fun j hj => by rw [hV1]; unfold zr_cv; rw [zg_u_off _ _ _ _ (by omega), zg_u_off _ _ _ _ (by omega), zg_u_off _ _ _ _ (by omega)]
    have cx : ∀ b, b ≠ 223 → V1 b = V b := fun b hb => by rw [hV1]; unfold zr_cv; rw [zg_u_out _ _ _ _ hb, zg_u_out _ _ _ _ hb, zg_u_out _ _ _ _ hb]
    have hI1 : zr_In V1 n sr := by
      obtain ⟨i1, i2, i3, i4, -, -⟩ := hI
      refine ⟨by rw [cx 229 (by decide)]; exact i1, by rw [cx 228 (by decide)]; exact i2, by rw [cx 228 (by decide)]; exact i3, zr_T_fr (fun b h _ => cx b h) (co 0 (by omega)) i4, ?_, fun _ => ⟨by rw [c13]; exact hp1, by rw [c14]; exact hq1, fun k k1 k2 => ?_⟩⟩
      · rw [c12]; split
        · exact Or.inr rfl
        · exact Or.inl rfl
      · rw [cx 228 (by decide)]
        have := zt_fw_0 (by decide) (hfw.trans hw) k k1 (by omega)
        omega
    have hsc1 : zr_sc V1 := by
      unfold zr_sc
      rw [co 18 (by omega), co 24 (by omega), co 25 (by omega)]
      exact hsc
    have key : ∀ (j i : Nat) (U : zg_V) (hij : i + j = 31) (hU : zr_qq V1 U), zg_G Γ (fun _ => True) zm_Ref_cut (zg_rm 6 0 0) (zg_Ω Γ (Q) 0 0) 0 0 59 [some (zg_r Γ (223)), some (zg_i (p)), some (zg_i (q)), some (zg_i (zs_sum (zr_cn V1 n sr) i)), some (zg_i (((i : Nat) : Int) + 1))] [] zk_K 242 (zk_P sh) (U) := by
      intro j
      induction j with
      | zero =>
        intro i U hij hU
        have e : i = 31 := by omega
        subst e
        refine zg_il4 zd_Ref_cut_59 ?_
        refine zg_bipush zd_Ref_cut_61 (by decide) ?_
        refine zg_icmp_ge (tgt := 90) zd_Ref_cut_63 (by decide) (by omega) (by omega) (fun b63 => ?_) (fun b63 => ?_)
        · refine zg_il3 zd_Ref_cut_90 ?_
          refine zg_ireturn zd_Ref_cut_91 rfl ?_
          subst hQ
          refine ⟨rfl, rfl, rfl, ?_⟩
          show if _ then _ else _
          rw [if_pos ⟨hw, hp1, hq1⟩, ← hV1]
          exact ⟨rfl, hU⟩
        · omega
      | succ j ih =>
        intro i U hij hU
        have hIU := zr_qq_In hU hI1
        have hkv := zr_qq_kv (n := n) (sr := sr) hU ((i : Int) + 1)
        obtain ⟨k1, k2, -, -⟩ := zr_kv_b hI1 ((i : Int) + 1)
        have ec : ((i + 1 : Nat) : Int) + 1 = (i : Int) + 1 + 1 := by omega
        have y : zr_kv V1 n sr ((i : Int) + 1) = 1 → zr_cn V1 n sr i = 1 := fun h => by unfold zr_cn; rw [if_pos h]
        have z : ¬ zr_kv V1 n sr ((i : Int) + 1) = 1 → zr_cn V1 n sr i = 0 := fun h => by unfold zr_cn; rw [if_neg h]
        refine zg_il4 zd_Ref_cut_59 ?_
        refine zg_bipush zd_Ref_cut_61 (by decide) ?_
        refine zg_icmp_ge (tgt := 90) zd_Ref_cut_63 (by decide) (by omega) (by omega) (fun b63 => ?_) (fun b63 => ?_)
        · omega
        · refine zg_al0 zd_Ref_cut_66 ?_
          refine zg_il4 zd_Ref_cut_67 ?_
          refine zg_cVr1 zd_Ref_cut_69 zM_Ref_kind zw_860 zi_Ref_kind zs_Ref_kind (cr_kind (by omega) hIU) (by decide) (by decide) (by omega) (by first | assumption | rfl) (by decide) rfl (Nat.le_of_ble_eq_true rfl) ?_
          intro r U1 hq
          obtain ⟨rfl, q1⟩ := hq
          rw [hkv]
          have hU1 := zr_qq_tr hU (zr_qq_k hU.2.2 q1)
          have ih := ih (i + 1) U1 (by omega) hU1
          rw [zs_sum_s, ec] at ih
          refine zg_iconst zd_Ref_cut_72 ?_
          refine zg_icmp_ne (tgt := 82) zd_Ref_cut_73 (by decide) (by omega) (by omega) (fun b73 => ?_) (fun b73 => ?_)
          · refine zg_il3 zd_Ref_cut_82 ?_
            refine zg_is3 zd_Ref_cut_83 (fun w h => by cases h <;> rfl) (by decide) ?_
            refine zg_inc4 zd_Ref_cut_84 (fun w h => by cases h <;> rfl) (by decide) ?_
            refine zg_goto (tgt := 59) zd_Ref_cut_87 (by decide) ?_
            first
            | (have h : zr_kv V1 n sr ((i : Int) + 1) = 1 := by omega
               rw [y h] at ih; exact ih)
            | (have h : ¬ zr_kv V1 n sr ((i : Int) + 1) = 1 := by omega
               rw [z h, Int.add_zero] at ih; exact ih)
          · refine zg_il3 zd_Ref_cut_76 ?_
            refine zg_iconst zd_Ref_cut_77 ?_
            refine zg_iadd zd_Ref_cut_78 ?_
            refine zg_goto (tgt := 83) zd_Ref_cut_79 (by decide) ?_
            refine zg_is3 zd_Ref_cut_83 (fun w h => by cases h <;> rfl) (by decide) ?_
            refine zg_inc4 zd_Ref_cut_84 (fun w h => by cases h <;> rfl) (by decide) ?_
            refine zg_goto (tgt := 59) zd_Ref_cut_87 (by decide) ?_
            first
            | (have h : zr_kv V1 n sr ((i : Int) + 1) = 1 := by omega
               rw [y h] at ih; exact ih)
            | (have h : ¬ zr_kv V1 n sr ((i : Int) + 1) = 1 := by omega
               rw [z h, Int.add_zero] at ih; exact ih)
    refine zg_iconst zd_Ref_cut_54 ?_
    refine zg_is3 zd_Ref_cut_55 (fun w h => by cases h <;> rfl) (by decide) ?_
    refine zg_iconst zd_Ref_cut_56 ?_
    refine zg_is4 zd_Ref_cut_57 (fun w h => by cases h <;> rfl) (by decide) ?_
    exact key 31 0 V1 (by omega) ⟨fun b _ => rfl, fun j _ => rfl, hsc1⟩
  refine zg_al0 zd_Ref_cut_0 ?_
  refine zg_cVp0 zd_Ref_cut_1 zM_Ref_waiting zw_773 zi_Ref_waiting zs_Ref_waiting (cr_waiting hI.2.1) (by decide) (by decide) (by omega) (by first | assumption | rfl) (by decide) rfl (Nat.le_of_ble_eq_true rfl) ?_
  rw [hfw]
  refine zg_if_gt (tgt := 29) zd_Ref_cut_4 (by decide) (by omega) (fun b4 => ?_) (fun b4 => ?_)
  · refine zg_iconst zd_Ref_cut_29 ?_
    refine zg_ireturn zd_Ref_cut_30 rfl ?_
    first
    | (exfalso; omega)
    | (subst hQ
       refine ⟨rfl, rfl, rfl, ?_⟩
       show if _ then _ else _
       rw [if_neg (by omega)]
       exact ⟨rfl, rfl⟩)
  · refine zg_il1 zd_Ref_cut_7 ?_
    refine zg_if_lt (tgt := 29) zd_Ref_cut_8 (by decide) (by omega) (fun b8 => ?_) (fun b8 => ?_)
    · refine zg_iconst zd_Ref_cut_29 ?_
      refine zg_ireturn zd_Ref_cut_30 rfl ?_
      first
      | (exfalso; omega)
      | (subst hQ
         refine ⟨rfl, rfl, rfl, ?_⟩
         show if _ then _ else _
         rw [if_neg (by omega)]
         exact ⟨rfl, rfl⟩)
    · refine zg_il1 zd_Ref_cut_11 ?_
      refine zg_sipush zd_Ref_cut_12 (by decide) ?_
      refine zg_icmp_gt (tgt := 29) zd_Ref_cut_15 (by decide) (by omega) (by omega) (fun b15 => ?_) (fun b15 => ?_)
      · refine zg_iconst zd_Ref_cut_29 ?_
        refine zg_ireturn zd_Ref_cut_30 rfl ?_
        first
        | (exfalso; omega)
        | (subst hQ
           refine ⟨rfl, rfl, rfl, ?_⟩
           show if _ then _ else _
           rw [if_neg (by omega)]
           exact ⟨rfl, rfl⟩)
      · refine zg_il2 zd_Ref_cut_18 ?_
        refine zg_if_lt (tgt := 29) zd_Ref_cut_19 (by decide) (by omega) (fun b19 => ?_) (fun b19 => ?_)
        · refine zg_iconst zd_Ref_cut_29 ?_
          refine zg_ireturn zd_Ref_cut_30 rfl ?_
          first
          | (exfalso; omega)
          | (subst hQ
             refine ⟨rfl, rfl, rfl, ?_⟩
             show if _ then _ else _
             rw [if_neg (by omega)]
             exact ⟨rfl, rfl⟩)
        · refine zg_il2 zd_Ref_cut_22 ?_
          refine zg_sipush zd_Ref_cut_23 (by decide) ?_
          refine zg_icmp_le (tgt := 31) zd_Ref_cut_26 (by decide) (by omega) (by omega) (fun b26 => ?_) (fun b26 => ?_)
          · refine zg_al0 zd_Ref_cut_31 ?_
            refine zg_il2 zd_Ref_cut_32 ?_
            refine zg_if_le (tgt := 40) zd_Ref_cut_33 (by decide) (by omega) (fun b33 => ?_) (fun b33 => ?_)
            · refine zg_iconst zd_Ref_cut_40 ?_
              refine zg_putz zd_Ref_cut_41 zf_653 rfl (by omega) (by first | assumption | rfl) rfl (by omega) ?_
              refine zg_al0 zd_Ref_cut_44 ?_
              refine zg_il1 zd_Ref_cut_45 ?_
              refine zg_puti zd_Ref_cut_46 zf_654 rfl (by omega) (by first | assumption | rfl) rfl ?_
              refine zg_al0 zd_Ref_cut_49 ?_
              refine zg_il2 zd_Ref_cut_50 ?_
              refine zg_puti zd_Ref_cut_51 zf_655 rfl (by omega) (by first | assumption | rfl) rfl ?_
              first
              | (have h : 0 < q := by omega
                 exact body (by omega) (by omega) (by omega) _ (by unfold zr_cv; rw [if_pos h]))
              | (have h : ¬ 0 < q := by omega
                 exact body (by omega) (by omega) (by omega) _ (by unfold zr_cv; rw [if_neg h]))
            · refine zg_iconst zd_Ref_cut_36 ?_
              refine zg_goto (tgt := 41) zd_Ref_cut_37 (by decide) ?_
              refine zg_putz zd_Ref_cut_41 zf_653 rfl (by omega) (by first | assumption | rfl) rfl (by omega) ?_
              refine zg_al0 zd_Ref_cut_44 ?_
              refine zg_il1 zd_Ref_cut_45 ?_
              refine zg_puti zd_Ref_cut_46 zf_654 rfl (by omega) (by first | assumption | rfl) rfl ?_
              refine zg_al0 zd_Ref_cut_49 ?_
              refine zg_il2 zd_Ref_cut_50 ?_
              refine zg_puti zd_Ref_cut_51 zf_655 rfl (by omega) (by first | assumption | rfl) rfl ?_
              first
              | (have h : 0 < q := by omega
                 exact body (by omega) (by omega) (by omega) _ (by unfold zr_cv; rw [if_pos h]))
              | (have h : ¬ 0 < q := by omega
                 exact body (by omega) (by omega) (by omega) _ (by unfold zr_cv; rw [if_neg h]))
          · refine zg_iconst zd_Ref_cut_29 ?_
            refine zg_ireturn zd_Ref_cut_30 rfl ?_
            first
            | (exfalso; omega)
            | (subst hQ
               refine ⟨rfl, rfl, rfl, ?_⟩
               show if _ then _ else _
               rw [if_neg (by omega)]
               exact ⟨rfl, rfl⟩)
end ZT39

