/-! the reference: tally, breakAt -/
section ZT49
variable {Γ : zg_C} {V : zg_V} {sh : Nat}
theorem cr_tally {n : Nat} {sr ft g : Nat → Nat} {Lf : Nat → List zw_E} (hI : zr_In V n sr) (hF : zr_Fe V ft) (hsc : zr_sc V) (hLf : ∀ k, k < 32 → V 228 k = 3 → zy_Ls (zr_τ V n) (sr k) (ft k) (V 231 k) 3 (Lf k))
    (hg : ∀ r, r < n → zr_rc (fun m => zr_kv V n sr m) (fun m => zw_go ((ft m, V 231 m, false, 0) :: Lf m) (zr_x (V 224 (3 * r)) (V 224 (3 * r + 1)) (V 224 (3 * r + 2))) (zr_lean (zr_τ V n) (sr m) (ft m) (V 231 m))) 5 1 < 32 ∧ g r = zr_ci (zt_ms (V 225) (V 226) (sr (zr_rc (fun m => zr_kv V n sr m) (fun m => zw_go ((ft m, V 231 m, false, 0) :: Lf m) (zr_x (V 224 (3 * r)) (V 224 (3 * r + 1)) (V 224 (3 * r + 2))) (zr_lean (zr_τ V n) (sr m) (ft m) (V 231 m))) 5 1)) n) 3) : zg_S Γ zm_Ref_tally 7 0 0 [zg_r Γ 223] zk_K 242 (zk_P sh) V (zq_r zk_K 242 (zk_P sh) (fun rr V' => if zt_fw (fun k => V 228 k - 1) 31 1 = 0 then rr = some (zg_i (zs_sum (fun r => if V 226 r = 0 then 1 else 0) n)) ∧ zr_tq V V' g n else rr = some (zg_i (-1)) ∧ V' = V)) := by
  have hT := hI.2.2.2.1
  have hn16 := hT.2.1
  have hfb : zt_fw (fun k => V 228 k - 1) 31 1 < 32 := by
    rcases zt_fw_w (f := fun k => V 228 k - 1) 31 1 with z | z <;> omega
  generalize hQ : zq_r zk_K 242 (zk_P sh) (fun rr V' => if zt_fw (fun k => V 228 k - 1) 31 1 = 0 then rr = some (zg_i (zs_sum (fun r => if V 226 r = 0 then 1 else 0) n)) ∧ zr_tq V V' g n else rr = some (zg_i (-1)) ∧ V' = V) = Q
  refine zg_enter 3 (by decide) (Nat.le_of_ble_eq_true rfl) rfl ?_
  have loop : zt_fw (fun k => V 228 k - 1) 31 1 = 0 → ∀ (j i : Nat) (U : zg_V) (o3 : Option Value), i + j = n → zr_tq V U g i → zg_G Γ (fun _ => True) zm_Ref_tally (zg_rm 7 0 0) (zg_Ω Γ (Q) 0 0) 0 0 13 [some (zg_r Γ (223)), some (zg_i (zs_sum (fun r => if V 226 r = 0 then 1 else 0) i)), some (zg_i ((i : Nat))), o3] [] zk_K 242 (zk_P sh) (U) := by
    intro hfw j
    induction j with
    | zero =>
      intro i U o3 hij hU
      have e : i = n := by omega
      subst e
      have o1 : U 223 0 = (i : Int) := by rw [hU.2.1 0 (by omega)]; exact hT.1
      refine zg_il2 zd_Ref_tally_13 ?_
      refine zg_al0 zd_Ref_tally_14 ?_
      refine zg_geti zd_Ref_tally_15 zf_641 (by omega) (by first | assumption | rfl) rfl ?_
      rw [o1]
      refine zg_icmp_ge (tgt := 95) zd_Ref_tally_18 (by decide) (by omega) (by omega) (fun b18 => ?_) (fun b18 => ?_)
      · refine zg_il1 zd_Ref_tally_95 ?_
        refine zg_ireturn zd_Ref_tally_96 rfl ?_
        subst hQ
        refine ⟨rfl, rfl, rfl, ?_⟩
        show if _ then _ else _
        rw [if_pos hfw]
        exact ⟨rfl, hU⟩
      · omega
    | succ j ih =>
      intro i U o3 hij hU
      have hi : i < 16 := by omega
      have o1 : U 223 0 = (n : Int) := by rw [hU.2.1 0 (by omega)]; exact hT.1
      have o26 : U 226 i = V 226 i := by rw [hU.1 226 (by omega)]
      have hw := hT.2.2.2.2.1 i hi
      have hs : 0 ≤ zs_sum (fun r => if V 226 r = 0 then 1 else 0) i ∧ zs_sum (fun r => if V 226 r = 0 then 1 else 0) i ≤ i := by
        have key : ∀ m : Nat, 0 ≤ zs_sum (fun r => if V 226 r = 0 then 1 else 0) m ∧ zs_sum (fun r => if V 226 r = 0 then 1 else 0) m ≤ m := by
          intro m
          induction m with
          | zero => exact ⟨Int.le_refl 0, Int.le_refl 0⟩
          | succ m ih =>
            rw [zs_sum_s]
            split <;> omega
        exact key i
      have step := zs_sum_s (fun r => if V 226 r = 0 then (1 : Int) else 0) i
      have skip : V 226 i ≠ 0 → zg_G Γ (fun _ => True) zm_Ref_tally (zg_rm 7 0 0) (zg_Ω Γ (Q) 0 0) 0 0 89 [some (zg_r Γ (223)), some (zg_i (zs_sum (fun r => if V 226 r = 0 then 1 else 0) i)), some (zg_i ((i : Nat))), o3] [] zk_K 242 (zk_P sh) (U) := by
        intro hne
        have go := ih (i + 1) U o3 (by omega) (zr_tq_n hne hU)
        rw [step, if_neg hne, Int.add_zero] at go
        refine zg_inc2 zd_Ref_tally_89 (fun w h => by cases h <;> rfl) (by decide) ?_
        refine zg_goto (tgt := 13) zd_Ref_tally_92 (by decide) ?_
        exact go
      have add : V 226 i = 0 → zg_G Γ (fun _ => True) zm_Ref_tally (zg_rm 7 0 0) (zg_Ω Γ (Q) 0 0) 0 0 30 [some (zg_r Γ (223)), some (zg_i (zs_sum (fun r => if V 226 r = 0 then 1 else 0) i)), some (zg_i ((i : Nat))), o3] [] zk_K 242 (zk_P sh) (U) := by
        intro h0
        obtain ⟨g2, g3⟩ := hg i (by omega)
        have lo := zr_tq_lo hU
        have hIU := zr_lo_In lo hI
        have hFU := zr_lo_Fe lo hF
        have hτU := zr_lo_τ (n := n) lo
        have e8 : U 228 = V 228 := lo.1 228 (by omega) (by omega) (by omega)
        have e1 : U 231 = V 231 := lo.1 231 (by omega) (by omega) (by omega)
        have e4 : U 224 = V 224 := lo.1 224 (by omega) (by omega) (by omega)
        have hv := hT.2.2.1 i
        have v0 := hv 0 hi (by omega)
        have v1 := hv 1 hi (by omega)
        have v2 := hv 2 hi (by omega)
        have main := cr_reach (Γ := Γ) (sh := sh) (V := U) (a := V 224 (3 * i)) (b := V 224 (3 * i + 1)) (c := V 224 (3 * i + 2)) (Lf := Lf) v0 v1 v2 hIU hFU hU.2.2.1 (fun k hk q => by rw [hτU, e1]; exact hLf k hk (by rw [← e8]; exact q))
        have ekv : (fun m : Nat => zr_kv U n sr (m : Int)) = fun m : Nat => zr_kv V n sr (m : Int) := funext (fun m => zr_lo_kv lo (m : Int))
        rw [ekv, e1, hτU] at main
        generalize zr_rc (fun m => zr_kv V n sr m) (fun m => zw_go ((ft m, V 231 m, false, 0) :: Lf m) (zr_x (V 224 (3 * i)) (V 224 (3 * i + 1)) (V 224 (3 * i + 2))) (zr_lean (zr_τ V n) (sr m) (ft m) (V 231 m))) 5 1 = E at *
        have g1 : g i < 4 := by rw [g3]; have := zr_ci_b (zt_ms (V 225) (V 226) (sr E) n) 3; omega
        have hsE := (hI.1 E g2)
        have fin : ∀ U2 : zg_V, zr_qq U U2 → zg_G Γ (fun _ => True) zm_Ref_tally (zg_rm 7 0 0) (zg_Ω Γ (Q) 0 0) 0 0 63 [some (zg_r Γ (223)), some (zg_i (zs_sum (fun r => if V 226 r = 0 then 1 else 0) i)), some (zg_i ((i : Nat))), some (zg_i ((E : Nat)))] [] zk_K 242 (zk_P sh) (U2) := by
          intro U2 q2
          have go := ih (i + 1) _ (some (zg_i (E : Nat))) (by omega) (zr_tq_y h0 hi g1 hU q2)
          rw [step, if_pos h0] at go
          have lo2 := zr_lo_tr lo (zr_lo_qq q2)
          have hT2 := zr_lo_T lo2 hT
          have e9 : U2 229 E = (sr E : Int) := by rw [lo2.1 229 (by omega) (by omega) (by omega)]; exact hsE.1
          have e5 : U2 225 = V 225 := lo2.1 225 (by omega) (by omega) (by omega)
          have e6 : U2 226 = V 226 := lo2.1 226 (by omega) (by omega) (by omega)
          have cl := cr_classIn (Γ := Γ) (sh := sh) (V := U2) hsE.2 hT2
          rw [e5, e6, ← g3] at cl
          refine zg_al0 zd_Ref_tally_63 ?_
          refine zg_getr zd_Ref_tally_64 zf_645 (by omega) (by first | assumption | rfl) rfl (by first | assumption | rfl) ?_
          refine zg_iconst zd_Ref_tally_67 ?_
          refine zg_il2 zd_Ref_tally_68 ?_
          refine zg_imul zd_Ref_tally_69 ?_
          refine zg_al0 zd_Ref_tally_70 ?_
          refine zg_al0 zd_Ref_tally_71 ?_
          refine zg_getr zd_Ref_tally_72 zf_650 (by omega) (by first | assumption | rfl) rfl (by first | assumption | rfl) ?_
          refine zg_il3 zd_Ref_tally_75 ?_
          refine zg_iald (j := E) zd_Ref_tally_76 (by omega) rfl rfl (by omega) (by decide) ?_
          rw [e9]
          refine zg_cVp1 zd_Ref_tally_77 zM_Ref_classIn zw_820 zi_Ref_classIn zs_Ref_classIn (cl) (by decide) (by decide) (by omega) (by first | assumption | rfl) (by decide) rfl (Nat.le_of_ble_eq_true rfl) ?_
          refine zg_iadd zd_Ref_tally_80 ?_
          refine zg_dup2 zd_Ref_tally_81 rfl rfl ?_
          refine zg_iald (j := 4 * i + g i) zd_Ref_tally_82 (by omega) rfl (by omega) (by omega) (by decide) ?_
          refine zg_iconst zd_Ref_tally_83 ?_
          refine zg_iadd zd_Ref_tally_84 ?_
          refine zg_iast (j := 4 * i + g i) zd_Ref_tally_85 (by omega) rfl (by omega) (by omega) (by decide) ?_
          refine zg_inc1 zd_Ref_tally_86 (fun w h => by cases h <;> rfl) (by decide) ?_
          refine zg_inc2 zd_Ref_tally_89 (fun w h => by cases h <;> rfl) (by decide) ?_
          refine zg_goto (tgt := 13) zd_Ref_tally_92 (by decide) ?_
          exact go
        refine zg_al0 zd_Ref_tally_30 ?_
        refine zg_al0 zd_Ref_tally_31 ?_
        refine zg_getr zd_Ref_tally_32 zf_642 (by omega) (by first | assumption | rfl) rfl (by first | assumption | rfl) ?_
        refine zg_iconst zd_Ref_tally_35 ?_
        refine zg_il2 zd_Ref_tally_36 ?_
        refine zg_imul zd_Ref_tally_37 ?_
        refine zg_iald (j := 3 * i) zd_Ref_tally_38 (by omega) rfl (by omega) (by omega) (by decide) ?_
        refine zg_al0 zd_Ref_tally_39 ?_
        refine zg_getr zd_Ref_tally_40 zf_642 (by omega) (by first | assumption | rfl) rfl (by first | assumption | rfl) ?_
        refine zg_iconst zd_Ref_tally_43 ?_
        refine zg_il2 zd_Ref_tally_44 ?_
        refine zg_imul zd_Ref_tally_45 ?_
        refine zg_iconst zd_Ref_tally_46 ?_
        refine zg_iadd zd_Ref_tally_47 ?_
        refine zg_iald (j := 3 * i + 1) zd_Ref_tally_48 (by omega) rfl (by omega) (by omega) (by decide) ?_
        refine zg_al0 zd_Ref_tally_49 ?_
        refine zg_getr zd_Ref_tally_50 zf_642 (by omega) (by first | assumption | rfl) rfl (by first | assumption | rfl) ?_
        refine zg_iconst zd_Ref_tally_53 ?_
        refine zg_il2 zd_Ref_tally_54 ?_
        refine zg_imul zd_Ref_tally_55 ?_
        refine zg_iconst zd_Ref_tally_56 ?_
        refine zg_iadd zd_Ref_tally_57 ?_
        refine zg_iald (j := 3 * i + 2) zd_Ref_tally_58 (by omega) rfl (by omega) (by omega) (by decide) ?_
        rw [e4]
        refine zg_cVr3 zd_Ref_tally_59 zM_Ref_reach zw_910 zi_Ref_reach zs_Ref_reach (main) (by decide) (by decide) (by omega) (by first | assumption | rfl) (by decide) rfl (Nat.le_of_ble_eq_true rfl) ?_
        intro r U2 hq
        obtain ⟨rfl, q2⟩ := hq
        refine zg_is3 zd_Ref_tally_62 (fun w h => by cases h <;> rfl) (by decide) ?_
        exact fin U2 q2
      refine zg_il2 zd_Ref_tally_13 ?_
      refine zg_al0 zd_Ref_tally_14 ?_
      refine zg_geti zd_Ref_tally_15 zf_641 (by omega) (by first | assumption | rfl) rfl ?_
      rw [o1]
      refine zg_icmp_ge (tgt := 95) zd_Ref_tally_18 (by decide) (by omega) (by omega) (fun b18 => ?_) (fun b18 => ?_)
      · omega
      · refine zg_al0 zd_Ref_tally_21 ?_
        refine zg_getr zd_Ref_tally_22 zf_644 (by omega) (by first | assumption | rfl) rfl (by first | assumption | rfl) ?_
        refine zg_il2 zd_Ref_tally_25 ?_
        refine zg_iald (j := i) zd_Ref_tally_26 (by omega) rfl rfl (by omega) (by decide) ?_
        rw [o26]
        refine zg_if_ne (tgt := 89) zd_Ref_tally_27 (by decide) (by omega) (fun b27 => ?_) (fun b27 => ?_)
        · exact skip b27
        · exact add (by omega)
  refine zg_al0 zd_Ref_tally_0 ?_
  refine zg_cVp0 zd_Ref_tally_1 zM_Ref_waiting zw_773 zi_Ref_waiting zs_Ref_waiting (cr_waiting hI.2.1) (by decide) (by decide) (by omega) (by first | assumption | rfl) (by decide) rfl (Nat.le_of_ble_eq_true rfl) ?_
  refine zg_if_le (tgt := 9) zd_Ref_tally_4 (by decide) (by omega) (fun b4 => ?_) (fun b4 => ?_)
  · refine zg_iconst zd_Ref_tally_9 ?_
    refine zg_is1 zd_Ref_tally_10 (fun w h => by cases h <;> rfl) (by decide) ?_
    refine zg_iconst zd_Ref_tally_11 ?_
    refine zg_is2 zd_Ref_tally_12 (fun w h => by cases h <;> rfl) (by decide) ?_
    exact loop (by omega) n 0 V none (by omega) (zr_tq_0 hsc g)
  · refine zg_iconst zd_Ref_tally_7 ?_
    refine zg_ireturn zd_Ref_tally_8 rfl ?_
    subst hQ
    refine ⟨rfl, rfl, rfl, ?_⟩
    show if _ then _ else _
    rw [if_neg (by omega)]
    exact ⟨rfl, rfl⟩
theorem cr_breakAt {n : Nat} {sr : Nat → Nat} {k : Int} (hk : -2147483648 ≤ k ∧ k < 2147483648) (hI : zr_In V n sr) (hsc : zr_sc V) : zg_S Γ zm_Ref_breakAt 5 0 0 [zg_r Γ 223, zg_i k] zk_K 242 (zk_P sh) V (zq_r zk_K 242 (zk_P sh) (fun rr V' => if zt_fw (fun k => V 228 k - 1) 31 1 = 0 then zr_qq V V' ∧ ((rr = some (zg_i (-1)) ∧ (k < 0 ∨ ∀ x y, ¬ zc_kt (zr_er V n sr) (zr_sp V) k.toNat x y)) ∨ ∃ x y, rr = some (zg_i (x * 32 + y)) ∧ 0 ≤ k ∧ k < 15 ∧ zc_kt (zr_er V n sr) (zr_sp V) k.toNat x y) else rr = some (zg_i (-1)) ∧ V' = V)) := by
  obtain ⟨hsr, hst, h163, hT, -, -⟩ := hI
  have hfb : zt_fw (fun k => V 228 k - 1) 31 1 < 32 := by
    rcases zt_fw_w (f := fun k => V 228 k - 1) 31 1 with z | z <;> omega
  have hS : ∀ k, zr_sp V k = true ↔ V 228 k = 3 := fun k => ⟨fun h => of_decide_eq_true h, fun h => decide_eq_true h⟩
  have h16 : ∀ k, 1 ≤ k → k < 32 → zr_sp V k = true → k < 16 := fun k _ h2 q => h163 k h2 ((hS k).mp q)
  generalize hQ : zq_r zk_K 242 (zk_P sh) (fun rr V' => if zt_fw (fun k => V 228 k - 1) 31 1 = 0 then zr_qq V V' ∧ ((rr = some (zg_i (-1)) ∧ (k < 0 ∨ ∀ x y, ¬ zc_kt (zr_er V n sr) (zr_sp V) k.toNat x y)) ∨ ∃ x y, rr = some (zg_i (x * 32 + y)) ∧ 0 ≤ k ∧ k < 15 ∧ zc_kt (zr_er V n sr) (zr_sp V) k.toNat x y) else rr = some (zg_i (-1)) ∧ V' = V) = Q
  refine zg_enter 2 (by decide) (Nat.le_of_ble_eq_true rfl) rfl ?_
  have body : ∀ V1 : zg_V, zt_fw (fun k => V 228 k - 1) 31 1 = 0 → zv_on (fun b => b = 236) V V1 → (∀ k, 1 ≤ k → k < 32 → V1 236 k = if 0 < V 228 k then zr_ek V n (sr k) else 0) → zg_G Γ (fun _ => True) zm_Ref_breakAt (zg_rm 5 0 0) (zg_Ω Γ (Q) 0 0) 0 0 13 [some (zg_r Γ (223)), some (zg_i (k)), none, none] [] zk_K 242 (zk_P sh) (V1) := by
    intro V1 hfw u1 u2
    have hec : zc_e (V1 236) (zr_sp V) (zr_er V n sr) (zr_sp V) := fun j j1 j2 => ⟨u2 j j1 j2, rfl, fun q => h16 j j1 j2 q⟩
    have he : ∀ j, 1 ≤ j → j < 32 → 0 ≤ V1 236 j ∧ V1 236 j ≤ 16 := fun j j1 j2 => by
      rw [u2 j j1 j2]
      split
      · exact zr_ek_b hT _
      · omega
    have hL : ∀ x y, 1 ≤ zc_L (V1 236) (zr_sp V) x y 1 ∧ zc_L (V1 236) (zr_sp V) x y 1 ≤ 32 := fun x y => ⟨zc_L_pos _ _ _ _ 1 (by omega), by have := zc_L_16 (e := V1 236) h16 x y; omega⟩
    have last : ∀ (U : zg_V) (m : Nat) (o2 o3 : Option Value), zr_bi V U (V1 236) (zr_sp V) 17 1 m → zg_G Γ (fun _ => True) zm_Ref_breakAt (zg_rm 5 0 0) (zg_Ω Γ (Q) 0 0) 0 0 69 [some (zg_r Γ (223)), some (zg_i (k)), o2, o3] [] zk_K 242 (zk_P sh) (U) := by
      intro U m o2 o3 hU
      obtain ⟨e1, e2⟩ := zr_bi_end hU
      have hm15 := zr_bi_15 h16 hU
      have hm := hU.2.2.1
      have hpos := zr_bi_pos hU
      have hq := zr_bi_qq hsc hU
      have fin : ∀ y : Int, (y = -1 ∧ (k < 0 ∨ (m : Int) ≤ k)) ∨ (0 ≤ k ∧ k < (m : Int) ∧ y = U 240 k.toNat * 32 + U 241 k.toNat) → zg_G Γ (fun _ => True) zm_Ref_breakAt (zg_rm 5 0 0) (zg_Ω Γ (Q) 0 0) 0 0 101 [some (zg_r Γ (223)), some (zg_i (k)), o2, o3] [(zg_i (y))] zk_K 242 (zk_P sh) (U) := by
        intro y hy
        refine zg_ireturn zd_Ref_breakAt_101 rfl ?_
        subst hQ
        refine ⟨rfl, rfl, rfl, ?_⟩
        show if _ then _ else _
        rw [if_pos hfw]
        refine ⟨hq, ?_⟩
        rcases hy with ⟨rfl, hy⟩ | ⟨y1, y2, rfl⟩
        · refine Or.inl ⟨rfl, ?_⟩
          by_cases kn : k < 0
          · exact Or.inl kn
          · exact Or.inr (fun x y z => e2 k.toNat (by omega) x y ((zc_kt_c hec _ _ _).mpr z))
        · exact Or.inr ⟨_, _, rfl, y1, by omega, (zc_kt_c hec _ _ _).mp (e1 k.toNat (by omega))⟩
      have hit : 0 ≤ k → k < (m : Int) → zg_G Γ (fun _ => True) zm_Ref_breakAt (zg_rm 5 0 0) (zg_Ω Γ (Q) 0 0) 0 0 85 [some (zg_r Γ (223)), some (zg_i (k)), o2, o3] [] zk_K 242 (zk_P sh) (U) := by
        intro k0 km
        have go := fin (U 240 k.toNat * 32 + U 241 k.toNat) (Or.inr ⟨k0, km, rfl⟩)
        refine zg_al0 zd_Ref_breakAt_85 ?_
        refine zg_getr zd_Ref_breakAt_86 zf_673 (by omega) (by first | assumption | rfl) rfl (by first | assumption | rfl) ?_
        refine zg_il1 zd_Ref_breakAt_89 ?_
        refine zg_iald (j := k.toNat) zd_Ref_breakAt_90 (by omega) rfl (by omega) (by omega) (by decide) ?_
        refine zg_bipush zd_Ref_breakAt_91 (by decide) ?_
        refine zg_imul zd_Ref_breakAt_93 ?_
        refine zg_al0 zd_Ref_breakAt_94 ?_
        refine zg_getr zd_Ref_breakAt_95 zf_674 (by omega) (by first | assumption | rfl) rfl (by first | assumption | rfl) ?_
        refine zg_il1 zd_Ref_breakAt_98 ?_
        refine zg_iald (j := k.toNat) zd_Ref_breakAt_99 (by omega) rfl (by omega) (by omega) (by decide) ?_
        refine zg_iadd zd_Ref_breakAt_100 ?_
        exact go
      refine zg_il1 zd_Ref_breakAt_69 ?_
      refine zg_if_lt (tgt := 81) zd_Ref_breakAt_70 (by decide) (by omega) (fun b70 => ?_) (fun b70 => ?_)
      · refine zg_iconst zd_Ref_breakAt_81 ?_
        refine zg_goto (tgt := 101) zd_Ref_breakAt_82 (by decide) ?_
        exact fin _ (Or.inl ⟨rfl, by omega⟩)
      · refine zg_il1 zd_Ref_breakAt_73 ?_
        refine zg_al0 zd_Ref_breakAt_74 ?_
        refine zg_geti zd_Ref_breakAt_75 zf_672 (by omega) (by first | assumption | rfl) rfl ?_
        rw [hm]
        refine zg_icmp_lt (tgt := 85) zd_Ref_breakAt_78 (by decide) (by omega) (by omega) (fun b78 => ?_) (fun b78 => ?_)
        · exact hit (by omega) (by omega)
        · refine zg_iconst zd_Ref_breakAt_81 ?_
          refine zg_goto (tgt := 101) zd_Ref_breakAt_82 (by decide) ?_
          exact fin _ (Or.inl ⟨rfl, by omega⟩)
    have outer : ∀ (jp p : Nat) (U : zg_V) (m : Nat) (o3 : Option Value), p + jp = 17 → 1 ≤ p → zr_bi V U (V1 236) (zr_sp V) p 1 m → zg_G Γ (fun _ => True) zm_Ref_breakAt (zg_rm 5 0 0) (zg_Ω Γ (Q) 0 0) 0 0 20 [some (zg_r Γ (223)), some (zg_i (k)), some (zg_i ((p : Nat))), o3] [] zk_K 242 (zk_P sh) (U) := by
      intro jp
      induction jp with
      | zero =>
        intro p U m o3 hp hp1 hU
        have e : p = 17 := by omega
        subst e
        refine zg_il2 zd_Ref_breakAt_20 ?_
        refine zg_bipush zd_Ref_breakAt_21 (by decide) ?_
        refine zg_icmp_gt (tgt := 69) zd_Ref_breakAt_23 (by decide) (by omega) (by omega) (fun b23 => ?_) (fun b23 => ?_)
        · exact last U m _ o3 hU
        · omega
      | succ jp ihp =>
        intro p U m o3 hp hp1 hU
        have inner : ∀ (jq q : Nat) (U : zg_V) (m : Nat), q + jq = 16 → 1 ≤ q → zr_bi V U (V1 236) (zr_sp V) p q m → zg_G Γ (fun _ => True) zm_Ref_breakAt (zg_rm 5 0 0) (zg_Ω Γ (Q) 0 0) 0 0 28 [some (zg_r Γ (223)), some (zg_i (k)), some (zg_i ((p : Nat))), some (zg_i ((q : Nat)))] [] zk_K 242 (zk_P sh) (U) := by
          intro jq
          induction jq with
          | zero =>
            intro q U m hq hq1 hU
            have e : q = 16 := by omega
            subst e
            have go := ihp (p + 1) U m (some (zg_i (16 : Nat))) (by omega) (by omega) (zr_bi_nl hU)
            refine zg_il3 zd_Ref_breakAt_28 ?_
            refine zg_bipush zd_Ref_breakAt_29 (by decide) ?_
            refine zg_icmp_gt (tgt := 63) zd_Ref_breakAt_31 (by decide) (by omega) (by omega) (fun b31 => ?_) (fun b31 => ?_)
            · refine zg_inc2 zd_Ref_breakAt_63 (fun w h => by cases h <;> rfl) (by decide) ?_
              refine zg_goto (tgt := 20) zd_Ref_breakAt_66 (by decide) ?_
              exact go
            · omega
          | succ jq ihq =>
            intro q U m hq hq1 hU
            have hm15 := zr_bi_15 h16 hU
            have nxt : ∀ (U2 : zg_V) (m2 : Nat), zr_bi V U2 (V1 236) (zr_sp V) p (q + 1) m2 → zg_G Γ (fun _ => True) zm_Ref_breakAt (zg_rm 5 0 0) (zg_Ω Γ (Q) 0 0) 0 0 57 [some (zg_r Γ (223)), some (zg_i (k)), some (zg_i ((p : Nat))), some (zg_i ((q : Nat)))] [] zk_K 242 (zk_P sh) (U2) := by
              intro U2 m2 hU2
              have go := ihq (q + 1) U2 m2 (by omega) (by omega) hU2
              refine zg_inc3 zd_Ref_breakAt_57 (fun w h => by cases h <;> rfl) (by decide) ?_
              refine zg_goto (tgt := 28) zd_Ref_breakAt_60 (by decide) ?_
              exact go
            have e6 : U 236 = V1 236 := hU.2.2.2.1
            have e8 : U 228 = V 228 := hU.1 228 (by omega)
            have hgl : zr_lw p q 15 = decide (Nat.gcd p q = 1) := zr_lw_gcd p (by omega) q (by omega) hp1 hq1
            have brk := cr_breaksAt (Γ := Γ) (sh := sh) (V := U) (p := (p : Int)) (q := (q : Int)) (S := zr_sp V) (by rw [e8]; exact hS) (by rw [e8]; exact h163) (by rw [e8]; exact hst) (by rw [e6]; exact he) (by omega) (by omega) (by rw [e6]; exact hL)
            rw [e6] at brk
            refine zg_il3 zd_Ref_breakAt_28 ?_
            refine zg_bipush zd_Ref_breakAt_29 (by decide) ?_
            refine zg_icmp_gt (tgt := 63) zd_Ref_breakAt_31 (by decide) (by omega) (by omega) (fun b31 => ?_) (fun b31 => ?_)
            · omega
            · refine zg_il2 zd_Ref_breakAt_34 ?_
              refine zg_il3 zd_Ref_breakAt_35 ?_
              refine zg_cSp2 zd_Ref_breakAt_36 zM_Ref_lowest zw_895 zi_Ref_lowest (cr_lowest (p := p) (q := q) (by omega) (by omega)) (by decide) (by decide) (Nat.le_of_ble_eq_true rfl) ?_
              refine zg_if_eqB (tgt := 57) zd_Ref_breakAt_39 (by decide) (fun b39 => ?_) (fun b39 => ?_)
              · first
                | (refine nxt U m (zr_bi_no (fun z => ?_) hU)
                   rw [hgl] at b39
                   exact absurd z.2.2.1 (of_decide_eq_false b39))
                | exact nxt U2 m (zr_bi_no (fun z => absurd z.2.2.2 (of_decide_eq_false b48)) hU2)
                | (obtain ⟨rfl, z1, z2, z3, z4⟩ := hq
                   rw [hgl] at b39
                   exact nxt U3 (m + 1) (zr_bi_in ⟨by omega, by omega, of_decide_eq_true b39, of_decide_eq_true b48⟩ hU2 z1 z2 z3 z4))
              · refine zg_al0 zd_Ref_breakAt_42 ?_
                refine zg_il2 zd_Ref_breakAt_43 ?_
                refine zg_il3 zd_Ref_breakAt_44 ?_
                refine zg_cVr2 zd_Ref_breakAt_45 zM_Ref_breaksAt zw_898 zi_Ref_breaksAt zs_Ref_breaksAt (brk) (by decide) (by decide) (by omega) (by first | assumption | rfl) (by decide) rfl (Nat.le_of_ble_eq_true rfl) ?_
                intro r U2 hq
                obtain ⟨rfl, w2⟩ := hq
                have hU2 := zr_bi_w w2 hU
                refine zg_if_eqB (tgt := 57) zd_Ref_breakAt_48 (by decide) (fun b48 => ?_) (fun b48 => ?_)
                · first
                  | (refine nxt U m (zr_bi_no (fun z => ?_) hU)
                     rw [hgl] at b39
                     exact absurd z.2.2.1 (of_decide_eq_false b39))
                  | exact nxt U2 m (zr_bi_no (fun z => absurd z.2.2.2 (of_decide_eq_false b48)) hU2)
                  | (obtain ⟨rfl, z1, z2, z3, z4⟩ := hq
                     rw [hgl] at b39
                     exact nxt U3 (m + 1) (zr_bi_in ⟨by omega, by omega, of_decide_eq_true b39, of_decide_eq_true b48⟩ hU2 z1 z2 z3 z4))
                · refine zg_al0 zd_Ref_breakAt_51 ?_
                  refine zg_il2 zd_Ref_breakAt_52 ?_
                  refine zg_il3 zd_Ref_breakAt_53 ?_
                  refine zg_cVr2 zd_Ref_breakAt_54 zM_Ref_insert zw_902 zi_Ref_insert zs_Ref_insert (cr_insert hU2.2.2.1 hm15 (zr_bi_pos hU2) (by omega) (by omega)) (by decide) (by decide) (by omega) (by first | assumption | rfl) (by decide) rfl (Nat.le_of_ble_eq_true rfl) ?_
                  intro r U3 hq
                  first
                  | (refine nxt U m (zr_bi_no (fun z => ?_) hU)
                     rw [hgl] at b39
                     exact absurd z.2.2.1 (of_decide_eq_false b39))
                  | exact nxt U2 m (zr_bi_no (fun z => absurd z.2.2.2 (of_decide_eq_false b48)) hU2)
                  | (obtain ⟨rfl, z1, z2, z3, z4⟩ := hq
                     rw [hgl] at b39
                     exact nxt U3 (m + 1) (zr_bi_in ⟨by omega, by omega, of_decide_eq_true b39, of_decide_eq_true b48⟩ hU2 z1 z2 z3 z4))
        have go := inner 15 1 U m (by omega) (by omega) hU
        refine zg_il2 zd_Ref_breakAt_20 ?_
        refine zg_bipush zd_Ref_breakAt_21 (by decide) ?_
        refine zg_icmp_gt (tgt := 69) zd_Ref_breakAt_23 (by decide) (by omega) (by omega) (fun b23 => ?_) (fun b23 => ?_)
        · omega
        · refine zg_iconst zd_Ref_breakAt_26 ?_
          refine zg_is3 zd_Ref_breakAt_27 (fun w h => by cases h <;> rfl) (by decide) ?_
          exact go
    have start : zr_bi V (zg_u V1 223 31 0) (V1 236) (zr_sp V) 1 1 0 := by
      refine ⟨fun b hb => by rw [zg_u_out _ _ _ _ (by omega)]; exact u1 b (by omega), fun j hj => by rw [zg_u_off _ _ _ _ hj, u1 223 (by omega)], by rw [zg_u_in]; rfl, by rw [zg_u_out _ _ _ _ (by decide)], fun i j _ h => by omega, fun i h => by omega, fun x y z => ?_⟩
      have := z.1.1
      have := z.1.2.1
      have := z.2
      omega
    have go := outer 16 1 _ 0 none (by omega) (by omega) start
    refine zg_al0 zd_Ref_breakAt_13 ?_
    refine zg_iconst zd_Ref_breakAt_14 ?_
    refine zg_puti zd_Ref_breakAt_15 zf_672 rfl (by omega) (by first | assumption | rfl) rfl ?_
    refine zg_iconst zd_Ref_breakAt_18 ?_
    refine zg_is2 zd_Ref_breakAt_19 (fun w h => by cases h <;> rfl) (by decide) ?_
    exact go
  refine zg_al0 zd_Ref_breakAt_0 ?_
  refine zg_cVp0 zd_Ref_breakAt_1 zM_Ref_waiting zw_773 zi_Ref_waiting zs_Ref_waiting (cr_waiting hst) (by decide) (by decide) (by omega) (by first | assumption | rfl) (by decide) rfl (Nat.le_of_ble_eq_true rfl) ?_
  refine zg_if_le (tgt := 9) zd_Ref_breakAt_4 (by decide) (by omega) (fun b4 => ?_) (fun b4 => ?_)
  · refine zg_al0 zd_Ref_breakAt_9 ?_
    refine zg_cVr0 zd_Ref_breakAt_10 zM_Ref_findErrors zw_844 zi_Ref_findErrors zs_Ref_findErrors (cr_findErrors hsr hst hT) (by decide) (by decide) (by omega) (by first | assumption | rfl) (by decide) rfl (Nat.le_of_ble_eq_true rfl) ?_
    intro r V1 hq
    obtain ⟨rfl, u1, u2⟩ := hq
    exact body V1 (by omega) u1 u2
  · refine zg_iconst zd_Ref_breakAt_7 ?_
    refine zg_ireturn zd_Ref_breakAt_8 rfl ?_
    subst hQ
    refine ⟨rfl, rfl, rfl, ?_⟩
    show if _ then _ else _
    rw [if_neg (by omega)]
    exact ⟨rfl, rfl⟩
end ZT49

