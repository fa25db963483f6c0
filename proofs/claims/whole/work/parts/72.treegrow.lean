/-! the tree: grow -/
section ZT44
variable {Γ : zg_C} {V : zg_V} {sh : Nat}
theorem ct_grow {n lim : Nat} {T : zj_T} {τ : zx_τ} {cr lf x : Int} (hx : -2147483648 ≤ x ∧ x < 2147483648) (hC : zj_C V n T cr) (hI : zj_I T n lim) (hcr : V 0 10 = cr) (hcrb : 0 ≤ cr ∧ cr ≤ 2) (hlim : V 0 11 = (lim : Int)) (hlimb : lim ≤ 4) (hlf : V 0 12 = lf) (hlfb : 1 ≤ lf ∧ lf ≤ 8) (hE : zx_E (zt_τ V n) τ) (hok : zj_ok τ) : zg_S Γ zm_Tree_grow 6 0 0 [zg_r Γ 0, zg_i x] zk_K 242 (zk_P sh) V (zq_r zk_K 242 (zk_P sh) (fun rr V' => if 1 ≤ x ∧ x ≤ 3 then rr = some (zg_i (zj_gc τ cr lf lim x.toNat T)) ∧ zj_C V' n (zj_gr τ cr lf lim x.toNat T) cr ∧ zj_I (zj_gr τ cr lf lim x.toNat T) n lim ∧ (∀ b, b < 40 ∨ b = 200 ∨ b = 202 ∨ b = 203 ∨ 214 ≤ b → V' b = V b) ∧ (zt_fw T.1 31 1 = 0 → V' = V) else rr = some (zg_i (-1)) ∧ V' = V)) := by
  have hτn : τ.2.2.2 = n := (congrArg (fun z => z.2.2) hE.1).symm
  have hn16 := hC.1.2.1
  generalize hQ : zq_r zk_K 242 (zk_P sh) (fun rr V' => if 1 ≤ x ∧ x ≤ 3 then rr = some (zg_i (zj_gc τ cr lf lim x.toNat T)) ∧ zj_C V' n (zj_gr τ cr lf lim x.toNat T) cr ∧ zj_I (zj_gr τ cr lf lim x.toNat T) n lim ∧ (∀ b, b < 40 ∨ b = 200 ∨ b = 202 ∨ b = 203 ∨ 214 ≤ b → V' b = V b) ∧ (zt_fw T.1 31 1 = 0 → V' = V) else rr = some (zg_i (-1)) ∧ V' = V) = Q
  refine zg_enter 3 (by decide) (Nat.le_of_ble_eq_true rfl) rfl ?_
  have loop : 1 ≤ x ∧ x ≤ 3 → ∀ (j i : Nat) (U : zg_V) (T' : zj_T) (made : Int) (o4 : Option Value), i + j = x.toNat → zj_C U n T' cr → zj_I T' n lim → (∀ b, b < 40 ∨ b = 200 ∨ b = 202 ∨ b = 203 ∨ 214 ≤ b → U b = V b) → (zt_fw T.1 31 1 = 0 → U = V ∧ T' = T) → zj_gr τ cr lf lim j T' = zj_gr τ cr lf lim x.toNat T → made + zj_gc τ cr lf lim j T' = zj_gc τ cr lf lim x.toNat T → 0 ≤ made ∧ made ≤ i → zg_G Γ (fun _ => True) zm_Tree_grow (zg_rm 6 0 0) (zg_Ω Γ (Q) 0 0) 0 0 16 [some (zg_r Γ (0)), some (zg_i (x)), some (zg_i (made)), some (zg_i ((i : Nat))), o4] [] zk_K 242 (zk_P sh) (U) := by
    intro hx3 j
    induction j with
    | zero =>
      intro i U T' made o4 hij hC' hI' hfr h0 hgr hgc hm
      have e0 : zj_gr τ cr lf lim 0 T' = T' := rfl
      have e1 : zj_gc τ cr lf lim 0 T' = 0 := rfl
      rw [e0] at hgr
      rw [e1] at hgc
      refine zg_il3 zd_Tree_grow_16 ?_
      refine zg_il1 zd_Tree_grow_17 ?_
      refine zg_icmp_ge (tgt := 50) zd_Tree_grow_18 (by decide) (by omega) (by omega) (fun b18 => ?_) (fun b18 => ?_)
      · refine zg_il2 zd_Tree_grow_50 ?_
        refine zg_ireturn zd_Tree_grow_51 rfl ?_
        subst hQ
        refine ⟨rfl, rfl, rfl, ?_⟩
        show if _ then _ else _
        rw [if_pos hx3, ← hgr]
        exact ⟨by rw [show made = zj_gc τ cr lf lim x.toNat T by omega], hC', hI', hfr, fun q => (h0 q).1⟩
      · omega
    | succ j ih =>
      intro i U T' made o4 hij hC' hI' hfr h0 hgr hgc hm
      have hkd : zt_kd (U (200 + 1)) := fun k hk => by
        show -1 ≤ U 201 k ∧ U 201 k ≤ 2
        rw [hC'.2.1 k hk]
        exact hI'.1 k hk
      have hfw : zt_fw (U (200 + 1)) 31 1 = zt_fw T'.1 31 1 := zt_fw_c 31 1 (fun k _ h2 => hC'.2.1 k (by omega))
      have hg0 := zj_gr_0 (τ := τ) (cr := cr) (lf := lf) (lim := lim) (T := T')
      have hgs := zj_gr_s (τ := τ) (cr := cr) (lf := lf) (lim := lim) (T := T')
      have hww := zt_fw_w (f := T'.1) 31 1
      have h0' : zt_fw T.1 31 1 = 0 → zt_fw T'.1 31 1 = 0 := fun q => by rw [(h0 q).2]; exact q
      generalize hw : zt_fw T'.1 31 1 = w at *
      have hEU : zx_E (zt_τ U n) τ := zx_E_tr (zx_E_V hn16 (fun b hb => hfr b (by omega))) hE
      have hstay : w = 0 → zg_G Γ (fun _ => True) zm_Tree_grow (zg_rm 6 0 0) (zg_Ω Γ (Q) 0 0) 0 0 44 [some (zg_r Γ (0)), some (zg_i (x)), some (zg_i (made)), some (zg_i ((i : Nat))), some (zg_i ((w : Nat)))] [] zk_K 242 (zk_P sh) (U) := by
        intro hw0
        have go := ih (i + 1) U T' made (some (zg_i (w : Nat))) (by omega) hC' hI' hfr h0 (by rw [(hg0 hw0 j).1, ← (hg0 hw0 (j + 1)).1]; exact hgr) (by rw [(hg0 hw0 j).2, ← (hg0 hw0 (j + 1)).2]; exact hgc) (by omega)
        refine zg_inc3 zd_Tree_grow_44 (fun w h => by cases h <;> rfl) (by decide) ?_
        refine zg_goto (tgt := 16) zd_Tree_grow_47 (by decide) ?_
        exact go
      have hturn : w ≠ 0 → zg_G Γ (fun _ => True) zm_Tree_grow (zg_rm 6 0 0) (zg_Ω Γ (Q) 0 0) 0 0 35 [some (zg_r Γ (0)), some (zg_i (x)), some (zg_i (made)), some (zg_i ((i : Nat))), some (zg_i ((w : Nat)))] [] zk_K 242 (zk_P sh) (U) := by
        intro hw0
        obtain ⟨w1, w2, w3⟩ : 1 ≤ w ∧ w < 32 ∧ T'.1 w = 0 := by
          rcases hww with q | ⟨q1, q2, q3⟩
          · exact absurd q hw0
          · exact ⟨q1, by omega, q3⟩
        have hs := zj_rows hI' hn16 w2
        have hs0 := (hC'.2.2.2.1 w w1 w2 (by omega)).1
        have hU0 := hfr 0 (by omega)
        have nxt : ∀ U2 : zg_V, zt_tn U U2 n (T'.2.1 w) w cr lf lim → zg_G Γ (fun _ => True) zm_Tree_grow (zg_rm 6 0 0) (zg_Ω Γ (Q) 0 0) 0 0 41 [some (zg_r Γ (0)), some (zg_i (x)), some (zg_i (made)), some (zg_i ((i : Nat))), some (zg_i ((w : Nat)))] [] zk_K 242 (zk_P sh) (U2) := by
          intro U2 htn
          obtain ⟨c1, c2⟩ := zj_C_st hC' hI' ⟨w1, w2⟩ w3 hlimb htn
          have eS : zj_st (zt_τ U n) cr lf lim T' w = zj_st τ cr lf lim T' w := (zj_st_E (zx_E_sy hEU) cr lf lim T' w hok.1).symm
          rw [eS] at c1
          have i1 := zj_I_st (τ := τ) (cr := cr) (lf := lf) (by rw [hτn]; exact hI') ⟨w1, w2⟩ w3 hlimb hok.1 hok.2
          rw [hτn] at i1
          have go := ih (i + 1) U2 (zj_st τ cr lf lim T' w) (made + 1) (some (zg_i (w : Nat))) (by omega) c1 i1 (fun b hb => by rw [c2 b hb]; exact hfr b hb) (fun q => absurd (h0' q) hw0) (by rw [← (hgs hw0 j).1]; exact hgr) (by have := (hgs hw0 j).2; omega) (by omega)
          refine zg_inc2 zd_Tree_grow_41 (fun w h => by cases h <;> rfl) (by decide) ?_
          refine zg_inc3 zd_Tree_grow_44 (fun w h => by cases h <;> rfl) (by decide) ?_
          refine zg_goto (tgt := 16) zd_Tree_grow_47 (by decide) ?_
          exact go
        refine zg_al0 zd_Tree_grow_35 ?_
        refine zg_il4 zd_Tree_grow_36 ?_
        refine zg_cVr1 zd_Tree_grow_38 zM_Tree_makeTurn zw_397 zi_Tree_makeTurn zs_Tree_makeTurn (ct_turn ⟨w1, w2⟩ hs hs0 (by rw [hU0]; exact hcr) hcrb (by rw [hU0]; exact hlim) hlimb (by rw [hU0]; exact hlf) hlfb hC'.1) (by decide) (by decide) (by omega) (by first | assumption | rfl) (by decide) rfl (Nat.le_of_ble_eq_true rfl) ?_
        intro r U2 hq
        obtain ⟨rfl, htn⟩ := hq
        exact nxt U2 htn
      refine zg_il3 zd_Tree_grow_16 ?_
      refine zg_il1 zd_Tree_grow_17 ?_
      refine zg_icmp_ge (tgt := 50) zd_Tree_grow_18 (by decide) (by omega) (by omega) (fun b18 => ?_) (fun b18 => ?_)
      · omega
      · refine zg_al0 zd_Tree_grow_21 ?_
        refine zg_getr zd_Tree_grow_22 zf_296 (by omega) (by first | assumption | rfl) rfl (by first | assumption | rfl) ?_
        refine zg_cVp0 zd_Tree_grow_25 zM_Shape_firstWaiting zw_393 zi_Shape_firstWaiting zs_Shape_firstWaiting (ct_hfw (Or.inl rfl) hkd) (by decide) (by decide) (by omega) (by first | assumption | rfl) (by decide) rfl (Nat.le_of_ble_eq_true rfl) ?_
        rw [hfw]
        refine zg_is4 zd_Tree_grow_28 (fun w h => by cases h <;> rfl) (by decide) ?_
        refine zg_il4 zd_Tree_grow_30 ?_
        refine zg_if_eq (tgt := 44) zd_Tree_grow_32 (by decide) (by omega) (fun b32 => ?_) (fun b32 => ?_)
        · exact hstay (by omega)
        · exact hturn (by omega)
  refine zg_il1 zd_Tree_grow_0 ?_
  refine zg_iconst zd_Tree_grow_1 ?_
  refine zg_icmp_lt (tgt := 10) zd_Tree_grow_2 (by decide) (by omega) (by omega) (fun b2 => ?_) (fun b2 => ?_)
  · refine zg_iconst zd_Tree_grow_10 ?_
    refine zg_ireturn zd_Tree_grow_11 rfl ?_
    first
    | (exfalso; omega)
    | (subst hQ
       refine ⟨rfl, rfl, rfl, ?_⟩
       show if _ then _ else _
       rw [if_neg (by omega)]
       exact ⟨rfl, rfl⟩)
  · refine zg_il1 zd_Tree_grow_5 ?_
    refine zg_iconst zd_Tree_grow_6 ?_
    refine zg_icmp_le (tgt := 12) zd_Tree_grow_7 (by decide) (by omega) (by omega) (fun b7 => ?_) (fun b7 => ?_)
    · refine zg_iconst zd_Tree_grow_12 ?_
      refine zg_is2 zd_Tree_grow_13 (fun w h => by cases h <;> rfl) (by decide) ?_
      refine zg_iconst zd_Tree_grow_14 ?_
      refine zg_is3 zd_Tree_grow_15 (fun w h => by cases h <;> rfl) (by decide) ?_
      exact loop (by omega) x.toNat 0 V T 0 none (by omega) hC hI (fun _ _ => rfl) (fun _ => ⟨rfl, rfl⟩) rfl (by omega) (by omega)
    · refine zg_iconst zd_Tree_grow_10 ?_
      refine zg_ireturn zd_Tree_grow_11 rfl ?_
      first
      | (exfalso; omega)
      | (subst hQ
         refine ⟨rfl, rfl, rfl, ?_⟩
         show if _ then _ else _
         rw [if_neg (by omega)]
         exact ⟨rfl, rfl⟩)
end ZT44

