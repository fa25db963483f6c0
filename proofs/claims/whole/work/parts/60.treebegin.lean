/-! the tree: even -/
section ZT43
variable {Γ : zg_C} {V : zg_V} {sh : Nat}
theorem zt_fill_T {n : Nat} (hT : zt_T V n) : zt_T (zv_fill V 20 n 1) n := by
  obtain ⟨h1, h2, h3, h4, h5, h6⟩ := hT
  have o : ∀ b, b ≠ 20 → zv_fill V 20 n 1 b = V b := fun b hb => zv_fill_o V 20 n 1 hb
  have i : ∀ r, r < n → zv_fill V 20 n 1 20 r = 1 := fun r hr => by simp [zv_fill, hr]
  refine ⟨by rw [o 1 (by decide)]; exact h1, h2, fun r f a b => by rw [o (3 + r) (by omega)]; exact h3 r f a b, fun r a => by rw [o 19 (by decide)]; exact h4 r a, fun r a => ?_, ?_⟩
  · by_cases e : r < n
    · rw [i r e]; omega
    · have : zv_fill V 20 n 1 20 r = V 20 r := by simp [zv_fill, e]
      rw [this]; exact h5 r a
  · rw [zs_sum_congr (g := fun _ => 1) (fun r hr => i r hr)]
    have : ∀ m : Nat, zs_sum (fun _ => 1) m = (m : Int) := fun m => by
      induction m with
      | zero => rfl
      | succ m ih => rw [zs_sum_s, ih]; omega
    rw [this]; omega
theorem ct_even {n : Nat} (hT : zt_T V n) : zg_S Γ zm_Tree_even 5 0 0 [zg_r Γ 0] zk_K 242 (zk_P sh) V (zq_p zk_K 242 (zk_P 200) (zt_an (zv_fill V 20 n 1) n) none) := by
  have hT1 := zt_fill_T hT
  refine zg_enter 0 (by decide) (Nat.le_of_ble_eq_true rfl) rfl ?_
  refine zg_al0 zd_Tree_even_0 ?_
  refine zg_getr zd_Tree_even_1 zf_293 (by omega) (by first | assumption | rfl) rfl (by first | assumption | rfl) ?_
  refine zg_iconst zd_Tree_even_4 ?_
  refine zg_cVq1 zd_Tree_even_5 zM_Table_setWeights zw_344 zi_Table_setWeights zs_Table_setWeights (ct_setWeights hT.1 hT.2.1) (by decide) (by decide) (by omega) (by first | assumption | rfl) (by decide) rfl (Nat.le_of_ble_eq_true rfl) ?_
  refine zg_al0 zd_Tree_even_8 ?_
  refine zg_cVq0 zd_Tree_even_9 zM_Tree_startAnew zw_265 zi_Tree_startAnew zs_Tree_startAnew (ct_anew hT1) (by decide) (by decide) (by omega) (by first | assumption | rfl) (by decide) rfl (Nat.le_of_ble_eq_true rfl) ?_
  refine zg_return zd_Tree_even_12 rfl ?_
  exact ⟨rfl, rfl, rfl, rfl, rfl⟩
def zt_bg (V : zg_V) (cr lim lf : Int) : zg_V := zg_u (zg_u (zg_u V 0 10 cr) 0 11 lim) 0 12 lf
theorem ct_begin {n : Nat} {cr lim lf : Int} (hT : zt_T V n) (h1 : -2147483648 ≤ cr ∧ cr < 2147483648) (h2 : -2147483648 ≤ lim ∧ lim < 2147483648) (h3 : -2147483648 ≤ lf ∧ lf < 2147483648) : zg_S Γ zm_Tree_begin 5 0 0 [zg_r Γ 0, zg_i cr, zg_i lim, zg_i lf] zk_K 242 (zk_P sh) V (zq_s zk_K 242 (fun rr P' V' => if (0 ≤ cr ∧ cr ≤ 2) ∧ (0 ≤ lim ∧ lim ≤ 4) ∧ (1 ≤ lf ∧ lf ≤ 8) then rr = some (zg_i 1) ∧ P' = zk_P 200 ∧ V' = zt_an (zt_bg V cr lim lf) n else rr = some (zg_i 0) ∧ P' = zk_P sh ∧ V' = V)) := by
  have hT1 : zt_T (zg_u (zg_u (zg_u V 0 10 cr) 0 11 lim) 0 12 lf) n := by
    obtain ⟨a1, a2, a3, a4, a5, a6⟩ := hT
    have o : ∀ b, b ≠ 0 → zg_u (zg_u (zg_u V 0 10 cr) 0 11 lim) 0 12 lf b = V b := fun b hb => by rw [zg_u_out _ _ _ _ hb, zg_u_out _ _ _ _ hb, zg_u_out _ _ _ _ hb]
    unfold zt_T
    rw [o 1 (by decide), o 19 (by decide), o 20 (by decide)]
    exact ⟨a1, a2, fun r f p q => by rw [o (3 + r) (by omega)]; exact a3 r f p q, a4, a5, a6⟩
  generalize hQ : zq_s zk_K 242 (fun rr P' V' => if (0 ≤ cr ∧ cr ≤ 2) ∧ (0 ≤ lim ∧ lim ≤ 4) ∧ (1 ≤ lf ∧ lf ≤ 8) then rr = some (zg_i 1) ∧ P' = zk_P 200 ∧ V' = zt_an (zt_bg V cr lim lf) n else rr = some (zg_i 0) ∧ P' = zk_P sh ∧ V' = V) = Q
  refine zg_enter 0 (by decide) (Nat.le_of_ble_eq_true rfl) rfl ?_
  refine zg_il1 zd_Tree_begin_0 ?_
  refine zg_if_lt (tgt := 18) zd_Tree_begin_1 (by decide) (by omega) (fun b1 => ?_) (fun b1 => ?_)
  · refine zg_iconst zd_Tree_begin_18 ?_
    refine zg_zreturn zd_Tree_begin_19 rfl (by omega) ?_
    first
    | (exfalso; omega)
    | (subst hQ
       refine ⟨rfl, rfl, ?_⟩
       show if _ then _ else _
       rw [if_neg (by omega)]
       exact ⟨rfl, rfl, rfl⟩)
    | (subst hQ
       refine ⟨rfl, rfl, ?_⟩
       show if _ then _ else _
       rw [if_pos (by omega)]
       exact ⟨rfl, rfl, rfl⟩)
  · refine zg_il1 zd_Tree_begin_4 ?_
    refine zg_iconst zd_Tree_begin_5 ?_
    refine zg_icmp_ge (tgt := 18) zd_Tree_begin_6 (by decide) (by omega) (by omega) (fun b6 => ?_) (fun b6 => ?_)
    · refine zg_iconst zd_Tree_begin_18 ?_
      refine zg_zreturn zd_Tree_begin_19 rfl (by omega) ?_
      first
      | (exfalso; omega)
      | (subst hQ
         refine ⟨rfl, rfl, ?_⟩
         show if _ then _ else _
         rw [if_neg (by omega)]
         exact ⟨rfl, rfl, rfl⟩)
      | (subst hQ
         refine ⟨rfl, rfl, ?_⟩
         show if _ then _ else _
         rw [if_pos (by omega)]
         exact ⟨rfl, rfl, rfl⟩)
    · refine zg_il2 zd_Tree_begin_9 ?_
      refine zg_if_lt (tgt := 18) zd_Tree_begin_10 (by decide) (by omega) (fun b10 => ?_) (fun b10 => ?_)
      · refine zg_iconst zd_Tree_begin_18 ?_
        refine zg_zreturn zd_Tree_begin_19 rfl (by omega) ?_
        first
        | (exfalso; omega)
        | (subst hQ
           refine ⟨rfl, rfl, ?_⟩
           show if _ then _ else _
           rw [if_neg (by omega)]
           exact ⟨rfl, rfl, rfl⟩)
        | (subst hQ
           refine ⟨rfl, rfl, ?_⟩
           show if _ then _ else _
           rw [if_pos (by omega)]
           exact ⟨rfl, rfl, rfl⟩)
      · refine zg_il2 zd_Tree_begin_13 ?_
        refine zg_iconst zd_Tree_begin_14 ?_
        refine zg_icmp_le (tgt := 20) zd_Tree_begin_15 (by decide) (by omega) (by omega) (fun b15 => ?_) (fun b15 => ?_)
        · refine zg_il3 zd_Tree_begin_20 ?_
          refine zg_iconst zd_Tree_begin_21 ?_
          refine zg_icmp_lt (tgt := 31) zd_Tree_begin_22 (by decide) (by omega) (by omega) (fun b22 => ?_) (fun b22 => ?_)
          · refine zg_iconst zd_Tree_begin_31 ?_
            refine zg_zreturn zd_Tree_begin_32 rfl (by omega) ?_
            first
            | (exfalso; omega)
            | (subst hQ
               refine ⟨rfl, rfl, ?_⟩
               show if _ then _ else _
               rw [if_neg (by omega)]
               exact ⟨rfl, rfl, rfl⟩)
            | (subst hQ
               refine ⟨rfl, rfl, ?_⟩
               show if _ then _ else _
               rw [if_pos (by omega)]
               exact ⟨rfl, rfl, rfl⟩)
          · refine zg_il3 zd_Tree_begin_25 ?_
            refine zg_bipush zd_Tree_begin_26 (by decide) ?_
            refine zg_icmp_le (tgt := 33) zd_Tree_begin_28 (by decide) (by omega) (by omega) (fun b28 => ?_) (fun b28 => ?_)
            · refine zg_al0 zd_Tree_begin_33 ?_
              refine zg_il1 zd_Tree_begin_34 ?_
              refine zg_puti zd_Tree_begin_35 zf_303 rfl (by omega) (by first | assumption | rfl) rfl ?_
              refine zg_al0 zd_Tree_begin_38 ?_
              refine zg_il2 zd_Tree_begin_39 ?_
              refine zg_puti zd_Tree_begin_40 zf_304 rfl (by omega) (by first | assumption | rfl) rfl ?_
              refine zg_al0 zd_Tree_begin_43 ?_
              refine zg_il3 zd_Tree_begin_44 ?_
              refine zg_puti zd_Tree_begin_45 zf_305 rfl (by omega) (by first | assumption | rfl) rfl ?_
              refine zg_al0 zd_Tree_begin_48 ?_
              refine zg_cVq0 zd_Tree_begin_49 zM_Tree_startAnew zw_265 zi_Tree_startAnew zs_Tree_startAnew (ct_anew hT1) (by decide) (by decide) (by omega) (by first | assumption | rfl) (by decide) rfl (Nat.le_of_ble_eq_true rfl) ?_
              refine zg_iconst zd_Tree_begin_52 ?_
              refine zg_zreturn zd_Tree_begin_53 rfl (by omega) ?_
              first
              | (exfalso; omega)
              | (subst hQ
                 refine ⟨rfl, rfl, ?_⟩
                 show if _ then _ else _
                 rw [if_neg (by omega)]
                 exact ⟨rfl, rfl, rfl⟩)
              | (subst hQ
                 refine ⟨rfl, rfl, ?_⟩
                 show if _ then _ else _
                 rw [if_pos (by omega)]
                 exact ⟨rfl, rfl, rfl⟩)
            · refine zg_iconst zd_Tree_begin_31 ?_
              refine zg_zreturn zd_Tree_begin_32 rfl (by omega) ?_
              first
              | (exfalso; omega)
              | (subst hQ
                 refine ⟨rfl, rfl, ?_⟩
                 show if _ then _ else _
                 rw [if_neg (by omega)]
                 exact ⟨rfl, rfl, rfl⟩)
              | (subst hQ
                 refine ⟨rfl, rfl, ?_⟩
                 show if _ then _ else _
                 rw [if_pos (by omega)]
                 exact ⟨rfl, rfl, rfl⟩)
        · refine zg_iconst zd_Tree_begin_18 ?_
          refine zg_zreturn zd_Tree_begin_19 rfl (by omega) ?_
          first
          | (exfalso; omega)
          | (subst hQ
             refine ⟨rfl, rfl, ?_⟩
             show if _ then _ else _
             rw [if_neg (by omega)]
             exact ⟨rfl, rfl, rfl⟩)
          | (subst hQ
             refine ⟨rfl, rfl, ?_⟩
             show if _ then _ else _
             rw [if_pos (by omega)]
             exact ⟨rfl, rfl, rfl⟩)
end ZT43

