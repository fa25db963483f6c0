/-! the reference: threshold, bag, grow -/
theorem zy_ag_16 {V : zg_V} {n : Nat} (hT : zr_T V n) (s f0 : Nat) (l0 : Int) (g : Nat) (t : Int) (u : Bool) : zy_ag (zr_τ V n) s f0 l0 g t u ≤ 16 := by
  have h1 := zr_w_16 hT (zb_df (zy_bo (zr_τ V n) s f0 g) (zy_le (zr_τ V n) s f0 l0 g ^^^ zx_sl (zr_τ V n) (zy_bo (zr_τ V n) s f0 g) g t))
  have h2 := zr_w_16 hT (zy_bo (zr_τ V n) s f0 g)
  unfold zy_ag
  split
  · show zt_w (V 226) (zy_bo (zr_τ V n) s f0 g) n - zt_w (V 226) (zb_df (zy_bo (zr_τ V n) s f0 g) (zy_le (zr_τ V n) s f0 l0 g ^^^ zx_sl (zr_τ V n) (zy_bo (zr_τ V n) s f0 g) g t)) n ≤ 16
    omega
  · exact h1.2
theorem zr_rl_b {V : zg_V} {n : Nat} (hT : zr_T V n) {s f0 : Nat} {l0 kv i : Int} {L : List zw_E} (hf : f0 < 3) (hL : zy_Ls (zr_τ V n) s f0 l0 3 L) : -1 ≤ zr_rl kv f0 L i ∧ zr_rl kv f0 L i ≤ 1000 ∧ (0 ≤ zr_rl kv f0 L i ↔ kv = 2 ∧ (0 ≤ i ∧ i ≤ 2) ∧ (i = 0 ∨ i ≤ (L.length : Int))) := by
  unfold zr_rl
  by_cases q : kv = 2 ∧ 0 ≤ i ∧ i ≤ 2
  · rw [if_pos q]
    by_cases q0 : i = 0
    · rw [if_pos q0]
      exact ⟨by omega, by omega, fun _ => ⟨q.1, q.2, Or.inl q0⟩, fun _ => by omega⟩
    · rw [if_neg q0]
      by_cases ql : i.toNat - 1 < L.length
      · have he : L[i.toNat - 1]? = some (L[i.toNat - 1]'ql) := List.getElem?_eq_getElem ql
        rw [he]
        obtain ⟨m1, m2, m3⟩ := (zy_Ls_mem hf hL).2 _ (List.getElem_mem ql)
        have a1 := zy_al_b hT s f0 l0 (L[i.toNat - 1]).1 (L[i.toNat - 1]).2.1 (L[i.toNat - 1]).2.2.1
        have a2 := zy_ag_16 hT s f0 l0 (L[i.toNat - 1]).1 (L[i.toNat - 1]).2.1 (L[i.toNat - 1]).2.2.1
        have a3 := m3.2.2.1
        have a4 := zg_b01 (L[i.toNat - 1]).2.2.1
        show -1 ≤ ((L[i.toNat - 1]).1 : Int) + 4 * zg_b (L[i.toNat - 1]).2.2.1 + 8 * (L[i.toNat - 1]).2.2.2 ∧ ((L[i.toNat - 1]).1 : Int) + 4 * zg_b (L[i.toNat - 1]).2.2.1 + 8 * (L[i.toNat - 1]).2.2.2 ≤ 1000 ∧ (0 ≤ ((L[i.toNat - 1]).1 : Int) + 4 * zg_b (L[i.toNat - 1]).2.2.1 + 8 * (L[i.toNat - 1]).2.2.2 ↔ _)
        generalize (L[i.toNat - 1]).2.2.2 = ag at *
        generalize zg_b (L[i.toNat - 1]).2.2.1 = bb at *
        exact ⟨by omega, by omega, fun _ => ⟨q.1, q.2, Or.inr (by omega)⟩, fun _ => by omega⟩
      · rw [List.getElem?_eq_none (by omega)]
        exact ⟨by show (-1 : Int) ≤ -1; omega, by show (-1 : Int) ≤ 1000; omega, fun h => absurd h (by show ¬ (0 : Int) ≤ -1; omega), fun h => by
          have := h.2.2
          omega⟩
  · rw [if_neg q]
    exact ⟨by omega, by omega, fun h => by omega, fun h => absurd ⟨h.1, h.2.1⟩ q⟩
section ZT48
variable {Γ : zg_C} {V : zg_V} {sh : Nat}
theorem cr_threshold {n : Nat} {sr ft : Nat → Nat} {k i : Int} (hk : -2147483648 ≤ k ∧ k < 2147483648) (hi : -2147483648 ≤ i ∧ i < 2147483648) (hI : zr_In V n sr) (hF : zr_Fe V ft) (hsc : zr_sc V) : zg_S Γ zm_Ref_threshold 7 0 0 [zg_r Γ 223, zg_i k, zg_i i] zk_K 242 (zk_P sh) V (zq_r zk_K 242 (zk_P sh) (fun rr V' => (∀ L, zy_Ls (zr_τ V n) (sr k.toNat) (ft k.toNat) (V 231 k.toNat) 3 L → rr = some (zg_i (zr_tl (zr_kv V n sr k) (V 231 k.toNat) L i))) ∧ (zr_kv V n sr k ≠ 2 → rr = some (zg_i 0)) ∧ zr_qq V V')) := by
  obtain ⟨k1, k2, k3, k4⟩ := zr_kv_b hI k
  have hT := hI.2.2.2.1
  obtain ⟨L, hL⟩ := zy_Ls_ex hT (sr k.toNat) (ft k.toNat) (V 231 k.toNat) 3
  generalize hQ : zq_r zk_K 242 (zk_P sh) (fun rr V' => (∀ L, zy_Ls (zr_τ V n) (sr k.toNat) (ft k.toNat) (V 231 k.toNat) 3 L → rr = some (zg_i (zr_tl (zr_kv V n sr k) (V 231 k.toNat) L i))) ∧ (zr_kv V n sr k ≠ 2 → rr = some (zg_i 0)) ∧ zr_qq V V') = Q
  refine zg_enter 0 (by decide) (Nat.le_of_ble_eq_true rfl) rfl ?_
  have fin : ∀ (V1 : zg_V) (x : Int), zr_qq V V1 → x = zr_tl (zr_kv V n sr k) (V 231 k.toNat) L i → Q (some (zg_i x)) zk_K 242 (zk_P sh) V1 := fun V1 x q1 hx => by
    subst hQ
    refine ⟨rfl, rfl, rfl, fun L' hL' => by rw [zy_Ls_u hL' hL, hx], fun hne => ?_, q1⟩
    rw [hx]
    unfold zr_tl
    rw [if_neg (fun z => hne z.1)]
  have zero : ∀ V1 : zg_V, zr_qq V V1 → (0 : Int) = zr_tl (zr_kv V n sr k) (V 231 k.toNat) L i → zg_G Γ (fun _ => True) zm_Ref_threshold (zg_rm 7 0 0) (zg_Ω Γ (Q) 0 0) 0 0 9 [some (zg_r Γ (223)), some (zg_i (k)), some (zg_i (i))] [] zk_K 242 (zk_P sh) (V1) := by
    intro V1 q1 h0
    refine zg_iconst zd_Ref_threshold_9 ?_
    refine zg_ireturn zd_Ref_threshold_10 rfl ?_
    exact fin V1 _ q1 h0
  have more : ∀ V1 : zg_V, zr_qq V V1 → zr_kv V n sr k = 2 → 0 ≤ i → i ≤ 2 → (i = 0 ∨ i ≤ (L.length : Int)) → zg_G Γ (fun _ => True) zm_Ref_threshold (zg_rm 7 0 0) (zg_Ω Γ (Q) 0 0) 0 0 11 [some (zg_r Γ (223)), some (zg_i (k)), some (zg_i (i))] [] zk_K 242 (zk_P sh) (V1) := by
    intro V1 q1 hkv hi0 hi2 hil
    have hk32 := k3 (by omega)
    have h3 := k4 hkv
    obtain ⟨κ, hκ⟩ : ∃ κ : Nat, k = (κ : Int) := ⟨k.toNat, by omega⟩
    subst hκ
    rw [show ((κ : Int)).toNat = κ by omega] at *
    obtain ⟨f1, f2, f3⟩ := hF κ (by omega) h3
    obtain ⟨s1, s2⟩ := hI.1 κ (by omega)
    have w9 : V1 229 κ = (sr κ : Int) := by rw [q1.1 229 (by omega)]; exact s1
    have w0 : V1 230 κ = (ft κ : Int) := by rw [q1.1 230 (by omega)]; exact f1
    have w1 : V1 231 κ = V 231 κ := by rw [q1.1 231 (by omega)]
    have hI1 := zr_qq_In q1 hI
    have hτ := zr_qq_τ (n := n) q1
    have htl : zr_tl (zr_kv V n sr (κ : Int)) (V 231 κ) L i = if i = 0 then V 231 κ else match L[i.toNat - 1]? with
      | none => 0
      | some e => e.2.1 := by unfold zr_tl; rw [if_pos ⟨hkv, hi0, hi2⟩]; rfl
    have behind : ∀ V2 : zg_V, zr_zi V1 V2 → zr_ls V2 L → ¬ i = 0 → zg_G Γ (fun _ => True) zm_Ref_threshold (zg_rm 7 0 0) (zg_Ω Γ (Q) 0 0) 0 0 27 [some (zg_r Γ (223)), some (zg_i (κ)), some (zg_i (i))] [] zk_K 242 (zk_P sh) (V2) := by
      intro V2 z1 z2 hne
      have hl : i.toNat - 1 < L.length := by omega
      have he : L[i.toNat - 1]? = some (L[i.toNat - 1]'hl) := List.getElem?_eq_getElem hl
      obtain ⟨g1, g2, g3, g4, g5, g6, g7⟩ := z2.2.2 _ _ he
      have hlen := z2.2.1
      refine zg_al0 zd_Ref_threshold_27 ?_
      refine zg_getr zd_Ref_threshold_28 zf_662 (by omega) (by first | assumption | rfl) rfl (by first | assumption | rfl) ?_
      refine zg_il2 zd_Ref_threshold_31 ?_
      refine zg_iconst zd_Ref_threshold_32 ?_
      refine zg_isub zd_Ref_threshold_33 ?_
      refine zg_iald (j := i.toNat - 1) zd_Ref_threshold_34 (by omega) rfl (by omega) (by omega) (by decide) ?_
      refine zg_ireturn zd_Ref_threshold_35 rfl ?_
      refine fin V2 _ (zr_qq_z q1 z1) ?_
      rw [htl, if_neg hne, he, g3]
    refine zg_il2 zd_Ref_threshold_11 ?_
    refine zg_if_ne (tgt := 22) zd_Ref_threshold_12 (by decide) (by omega) (fun b12 => ?_) (fun b12 => ?_)
    · refine zg_al0 zd_Ref_threshold_22 ?_
      refine zg_il1 zd_Ref_threshold_23 ?_
      refine zg_cVr1 zd_Ref_threshold_24 zM_Ref_standIns zw_828 zi_Ref_standIns zs_Ref_standIns (cr_standIns (by omega) s2 w9 w0 f2 w1 f3 q1.2.2.2.1 q1.2.2.2.2 hI1.2.2.2.1) (by decide) (by decide) (by omega) (by first | assumption | rfl) (by decide) rfl (Nat.le_of_ble_eq_true rfl) ?_
      intro r V2 hq
      obtain ⟨rfl, z1, L', z2, z3⟩ := hq
      rw [hτ] at z3
      obtain rfl := zy_Ls_u z3 hL
      exact behind V2 z1 z2 (by omega)
    · refine zg_al0 zd_Ref_threshold_15 ?_
      refine zg_getr zd_Ref_threshold_16 zf_652 (by omega) (by first | assumption | rfl) rfl (by first | assumption | rfl) ?_
      refine zg_il1 zd_Ref_threshold_19 ?_
      refine zg_iald (j := κ) zd_Ref_threshold_20 (by omega) rfl rfl (by omega) (by decide) ?_
      refine zg_ireturn zd_Ref_threshold_21 rfl ?_
      refine fin V1 _ q1 ?_
      rw [w1, htl, if_pos (by omega)]
  have rest : ∀ (r : Option Value) (V1 : zg_V), zr_qq V V1 → (zr_kv V n sr k = 2 → r = some (zg_i (zr_rl (zr_kv V n sr k) (ft k.toNat) L i))) → (zr_kv V n sr k ≠ 2 → r = some (zg_i (-1))) → zg_G Γ (fun _ => True) zm_Ref_threshold (zg_rm 7 0 0) (zg_Ω Γ Q 0 0) 0 0 6 [some (zg_r Γ 223), some (zg_i k), some (zg_i i)] (r.toList ++ []) zk_K 242 (zk_P sh) V1 := by
    intro r V1 q1 hr1 hr2
    by_cases hkv : zr_kv V n sr k = 2
    · obtain rfl := hr1 hkv
      have hf := (hF k.toNat (by have := k3 (by omega); omega) (k4 hkv)).2.1
      obtain ⟨b1, b2, b3⟩ := zr_rl_b hT (kv := zr_kv V n sr k) (i := i) hf hL
      generalize zr_rl (zr_kv V n sr k) (ft k.toNat) L i = y at *
      refine zg_if_ge (tgt := 11) zd_Ref_threshold_6 (by decide) (by omega) (fun b => ?_) (fun b => ?_)
      · obtain ⟨-, c2, c3⟩ := b3.mp (by omega)
        exact more V1 q1 hkv c2.1 c2.2 c3
      · refine zero V1 q1 ?_
        unfold zr_tl
        by_cases q : zr_kv V n sr k = 2 ∧ 0 ≤ i ∧ i ≤ 2
        · rw [if_pos q]
          by_cases q0 : i = 0
          · exact absurd (b3.mpr ⟨hkv, q.2, Or.inl q0⟩) (by omega)
          · rw [if_neg q0]
            by_cases ql : i ≤ (L.length : Int)
            · exact absurd (b3.mpr ⟨hkv, q.2, Or.inr ql⟩) (by omega)
            · rw [List.getElem?_eq_none (by omega)]
        · rw [if_neg q]
    · obtain rfl := hr2 hkv
      refine zg_if_ge (tgt := 11) zd_Ref_threshold_6 (by decide) (by omega) (fun b => ?_) (fun b => ?_)
      · omega
      · refine zero V1 q1 ?_
        unfold zr_tl
        rw [if_neg (fun z => hkv z.1)]
  refine zg_al0 zd_Ref_threshold_0 ?_
  refine zg_il1 zd_Ref_threshold_1 ?_
  refine zg_il2 zd_Ref_threshold_2 ?_
  refine zg_cVr2 zd_Ref_threshold_3 zM_Ref_rule zw_865 zi_Ref_rule zs_Ref_rule (cr_rule hk hi hI hF hsc) (by decide) (by decide) (by omega) (by first | assumption | rfl) (by decide) rfl (Nat.le_of_ble_eq_true rfl) ?_
  intro r V1 hq
  exact rest r V1 hq.2.2 (fun _ => hq.1 L hL) hq.2.1
theorem cr_bag {n : Nat} {z : Int} (hn : V 223 0 = (n : Int)) (hn16 : n ≤ 16) (h0 : ∀ r, n ≤ r → V 226 r = 0) : zg_S Γ zm_Ref_bag 1 0 0 [zg_r Γ 223, zg_l z] zk_K 242 (zk_P sh) V (zq_r zk_K 242 (zk_P sh) (fun rr V' => if n = 0 then rr = some (zg_i (-1)) ∧ V' = V else rr = some (zg_i (zs_sum (fun r => if zt_dr n n z (fun _ => 0) r = 0 then 1 else 0) n)) ∧ ∃ W, zv_on (fun b => b = 226) V W ∧ W 226 = zt_dr n n z (fun _ => 0) ∧ zr_an W V' n)) := by
  generalize hQ : zq_r zk_K 242 (zk_P sh) (fun rr V' => if n = 0 then rr = some (zg_i (-1)) ∧ V' = V else rr = some (zg_i (zs_sum (fun r => if zt_dr n n z (fun _ => 0) r = 0 then 1 else 0) n)) ∧ ∃ W, zv_on (fun b => b = 226) V W ∧ W 226 = zt_dr n n z (fun _ => 0) ∧ zr_an W V' n) = Q
  refine zg_enter 5 (by decide) (Nat.le_of_ble_eq_true rfl) rfl ?_
  have body : n ≠ 0 → zg_G Γ (fun _ => True) zm_Ref_bag (zg_rm 1 0 0) (zg_Ω Γ (Q) 0 0) 0 0 9 [some (zg_r Γ (223)), some (zg_l (z)), none, none, none, none, none, none] [] zk_K 242 (zk_P sh) (V) := by
    intro hn0
    obtain ⟨d1, d2, d3⟩ := zt_dr_0 (n := n) (by omega) hn16 z
    have last : ∀ (V' : zg_V) (s : Int), zr_an (zv_row V 226 (zt_dr n n z (fun _ => 0))) V' n → ∀ (o6 o7 : Option Value), zg_G Γ (fun _ => True) zm_Ref_bag (zg_rm 1 0 0) (zg_Ω Γ (Q) 0 0) 0 0 122 [some (zg_r Γ (223)), some (zg_l (z)), none, some (zg_l (s)), none, some (zg_i ((n : Nat))), o6, o7] [] zk_K 242 (zk_P sh) (V') := by
      intro V' s hV' o6 o7
      have w6 : ∀ r, V' 226 r = zt_dr n n z (fun _ => 0) r := fun r => by rw [hV'.1 226 (by omega), zv_row_i]
      have w0 : V' 223 0 = (n : Int) := by rw [hV'.2.1 0 (by decide), zv_row_o _ _ _ (by decide)]; exact hn
      have cnt : ∀ (j i : Nat), i + j = n → zg_G Γ (fun _ => True) zm_Ref_bag (zg_rm 1 0 0) (zg_Ω Γ (Q) 0 0) 0 0 128 [some (zg_r Γ (223)), some (zg_l (z)), none, some (zg_l (s)), none, some (zg_i (zs_sum (fun r => if zt_dr n n z (fun _ => 0) r = 0 then 1 else 0) i)), some (zg_i ((i : Nat))), o7] [] zk_K 242 (zk_P sh) (V') := by
        intro j
        induction j with
        | zero =>
          intro i hij
          have e : i = n := by omega
          subst e
          refine zg_il6 zd_Ref_bag_128 ?_
          refine zg_al0 zd_Ref_bag_130 ?_
          refine zg_geti zd_Ref_bag_131 zf_641 (by omega) (by first | assumption | rfl) rfl ?_
          rw [w0]
          refine zg_icmp_ge (tgt := 164) zd_Ref_bag_134 (by decide) (by omega) (by omega) (fun b134 => ?_) (fun b134 => ?_)
          · refine zg_il5 zd_Ref_bag_164 ?_
            refine zg_ireturn zd_Ref_bag_166 rfl ?_
            subst hQ
            refine ⟨rfl, rfl, rfl, ?_⟩
            show if _ then _ else _
            rw [if_neg hn0]
            exact ⟨rfl, zv_row V 226 (zt_dr i i z (fun _ => 0)), fun b hb => zv_row_o _ _ _ hb, zv_row_i _ _ _, hV'⟩
          · omega
        | succ j ih =>
          intro i hij
          have hi16 : i < 16 := by omega
          have hb := d1 i
          have hs : 0 ≤ zs_sum (fun r => if zt_dr n n z (fun _ => 0) r = 0 then 1 else 0) i ∧ zs_sum (fun r => if zt_dr n n z (fun _ => 0) r = 0 then 1 else 0) i ≤ i := by
            have key : ∀ m : Nat, 0 ≤ zs_sum (fun r => if zt_dr n n z (fun _ => 0) r = 0 then 1 else 0) m ∧ zs_sum (fun r => if zt_dr n n z (fun _ => 0) r = 0 then 1 else 0) m ≤ m := by
              intro m
              induction m with
              | zero => exact ⟨Int.le_refl 0, Int.le_refl 0⟩
              | succ m ih =>
                rw [zs_sum_s]
                split <;> omega
            exact key i
          have step := zs_sum_s (fun r => if zt_dr n n z (fun _ => 0) r = 0 then (1 : Int) else 0) i
          have ih := ih (i + 1) (by omega)
          rw [step] at ih
          have w6i := w6 i
          have a156 : ∀ y : Int, y = zs_sum (fun r => if zt_dr n n z (fun _ => 0) r = 0 then (1 : Int) else 0) i + (if zt_dr n n z (fun _ => 0) i = 0 then 1 else 0) → zg_G Γ (fun _ => True) zm_Ref_bag (zg_rm 1 0 0) (zg_Ω Γ (Q) 0 0) 0 0 156 [some (zg_r Γ (223)), some (zg_l (z)), none, some (zg_l (s)), none, some (zg_i (zs_sum (fun r => if zt_dr n n z (fun _ => 0) r = 0 then 1 else 0) i)), some (zg_i ((i : Nat))), o7] [(zg_i (y))] zk_K 242 (zk_P sh) (V') := by
            intro y hy
            subst hy
            refine zg_is5 zd_Ref_bag_156 (fun w h => by cases h <;> rfl) (by decide) ?_
            refine zg_inc6 zd_Ref_bag_158 (fun w h => by cases h <;> rfl) (by decide) ?_
            refine zg_goto (tgt := 128) zd_Ref_bag_161 (by decide) ?_
            exact ih
          refine zg_il6 zd_Ref_bag_128 ?_
          refine zg_al0 zd_Ref_bag_130 ?_
          refine zg_geti zd_Ref_bag_131 zf_641 (by omega) (by first | assumption | rfl) rfl ?_
          rw [w0]
          refine zg_icmp_ge (tgt := 164) zd_Ref_bag_134 (by decide) (by omega) (by omega) (fun b134 => ?_) (fun b134 => ?_)
          · omega
          · refine zg_al0 zd_Ref_bag_137 ?_
            refine zg_getr zd_Ref_bag_138 zf_644 (by omega) (by first | assumption | rfl) rfl (by first | assumption | rfl) ?_
            refine zg_il6 zd_Ref_bag_141 ?_
            refine zg_iald (j := i) zd_Ref_bag_143 (by omega) rfl rfl (by omega) (by decide) ?_
            rw [w6i]
            refine zg_if_ne (tgt := 154) zd_Ref_bag_144 (by decide) (by omega) (fun b144 => ?_) (fun b144 => ?_)
            · refine zg_il5 zd_Ref_bag_154 ?_
              first
              | exact a156 _ (by rw [if_pos b144])
              | exact a156 _ (by rw [if_neg b144]; omega)
            · refine zg_il5 zd_Ref_bag_147 ?_
              refine zg_iconst zd_Ref_bag_149 ?_
              refine zg_iadd zd_Ref_bag_150 ?_
              refine zg_goto (tgt := 156) zd_Ref_bag_151 (by decide) ?_
              first
              | exact a156 _ (by rw [if_pos b144])
              | exact a156 _ (by rw [if_neg b144]; omega)
      refine zg_iconst zd_Ref_bag_122 ?_
      refine zg_is5 zd_Ref_bag_123 (fun w h => by cases h <;> rfl) (by decide) ?_
      refine zg_iconst zd_Ref_bag_125 ?_
      refine zg_is6 zd_Ref_bag_126 (fun w h => by cases h <;> rfl) (by decide) ?_
      exact cnt n 0 (by omega)
    have key : ∀ (j i : Nat) (s : Int) (w : Nat → Int) (o6 o7 : Option Value) (hij : i + j = n) (hE : zt_dr n j s w = zt_dr n n z (fun _ => 0)), zg_G Γ (fun _ => True) zm_Ref_bag (zg_rm 1 0 0) (zg_Ω Γ (Q) 0 0) 0 0 35 [some (zg_r Γ (223)), some (zg_l (z)), none, some (zg_l (s)), none, some (zg_i ((i : Nat))), o6, o7] [] zk_K 242 (zk_P sh) (zv_row V 226 w) := by
      intro j
      induction j with
      | zero =>
        intro i s w o6 o7 hij hE
        have e : i = n := by omega
        subst e
        have hE : w = zt_dr i i z (fun _ => 0) := hE
        subst hE
        have hTn : zv_row V 226 (zt_dr i i z (fun _ => 0)) 223 0 = (i : Int) := by rw [zv_row_o _ _ _ (by decide), hn]
        refine zg_il5 zd_Ref_bag_35 ?_
        refine zg_al0 zd_Ref_bag_37 ?_
        refine zg_geti zd_Ref_bag_38 zf_641 (by omega) (by first | assumption | rfl) rfl ?_
        rw [hTn]
        refine zg_icmp_ge (tgt := 118) zd_Ref_bag_41 (by decide) (by omega) (by omega) (fun b41 => ?_) (fun b41 => ?_)
        · refine zg_al0 zd_Ref_bag_118 ?_
          refine zg_cVr0 zd_Ref_bag_119 zM_Ref_anew zw_637 zi_Ref_anew zs_Ref_anew (cr_anew hTn hn16 (fun r _ => by rw [zv_row_i]; exact d1 r)) (by decide) (by decide) (by omega) (by first | assumption | rfl) (by decide) rfl (Nat.le_of_ble_eq_true rfl) ?_
          intro r V' hq
          obtain ⟨rfl, hV'⟩ := hq
          exact last V' s hV' o6 o7
        · omega
      | succ j ih =>
        intro i s w o6 o7 hij hE
        have hTn : zv_row V 226 w 223 0 = (n : Int) := by rw [zv_row_o _ _ _ (by decide), hn]
        have inner : ∀ (g a : Nat) (t r : Int), a + g = 8 → 0 ≤ r ∧ r ≤ 32 → zt_in n g t r = zt_in n 8 s 32 → zg_G Γ (fun _ => True) zm_Ref_bag (zg_rm 1 0 0) (zg_Ω Γ (Q) 0 0) 0 0 51 [some (zg_r Γ (223)), some (zg_l (z)), none, some (zg_l (t)), none, some (zg_i ((i : Nat))), some (zg_i (r)), some (zg_i ((a : Nat)))] [] zk_K 242 (zk_P sh) (zv_row V 226 w) := by
          have fin : ∀ (a : Nat) (t r : Int), 0 ≤ r ∧ r ≤ 32 → (t, r) = zt_in n 8 s 32 → zg_G Γ (fun _ => True) zm_Ref_bag (zg_rm 1 0 0) (zg_Ω Γ (Q) 0 0) 0 0 96 [some (zg_r Γ (223)), some (zg_l (z)), none, some (zg_l (t)), none, some (zg_i ((i : Nat))), some (zg_i (r)), some (zg_i ((a : Nat)))] [] zk_K 242 (zk_P sh) (zv_row V 226 w) := by
            intro a t r hr he
            have hm1 := Int.emod_nonneg r (show (n : Int) ≠ 0 by omega)
            have hm2 := Int.emod_lt_of_pos r (show (0 : Int) < n by omega)
            have hr' : (zt_in n 8 s 32).2 = r := by rw [← he]
            have ht' : (zt_in n 8 s 32).1 = t := by rw [← he]
            have ih := ih (i + 1) t (zt_inc w (r % (n : Int)).toNat) (some (zg_i r)) (some (zg_i a)) (by omega) (by rw [← hE]; show _ = zt_dr n j _ _; rw [hr', ht'])
            rw [← zv_row_inc] at ih
            refine zg_al0 zd_Ref_bag_96 ?_
            refine zg_getr zd_Ref_bag_97 zf_644 (by omega) (by first | assumption | rfl) rfl (by first | assumption | rfl) ?_
            refine zg_il6 zd_Ref_bag_100 ?_
            refine zg_al0 zd_Ref_bag_102 ?_
            refine zg_geti zd_Ref_bag_103 zf_641 (by omega) (by first | assumption | rfl) rfl ?_
            rw [hTn]
            refine zg_irem (r % (n : Int)) zd_Ref_bag_106 (by rw [zg_eq0 (by omega)]; omega) (zb_rem (by omega) (by omega) (by omega)) ?_
            refine zg_dup2 zd_Ref_bag_107 rfl rfl ?_
            refine zg_iald (j := (r % (n : Int)).toNat) zd_Ref_bag_108 (by omega) rfl (by omega) (by omega) (by decide) ?_
            refine zg_iconst zd_Ref_bag_109 ?_
            refine zg_iadd zd_Ref_bag_110 ?_
            refine zg_iast (j := (r % (n : Int)).toNat) zd_Ref_bag_111 (by omega) rfl (by omega) (by omega) (by decide) ?_
            refine zg_inc5 zd_Ref_bag_112 (fun w h => by cases h <;> rfl) (by decide) ?_
            refine zg_goto (tgt := 35) zd_Ref_bag_115 (by decide) ?_
            rw [zv_row_i] at *; exact ih
          intro g
          induction g with
          | zero =>
            intro a t r hag hr he
            refine zg_il7 zd_Ref_bag_51 ?_
            refine zg_bipush zd_Ref_bag_53 (by decide) ?_
            refine zg_icmp_ge (tgt := 96) zd_Ref_bag_55 (by decide) (by omega) (by omega) (fun b55 => ?_) (fun b55 => ?_)
            · exact fin a t r hr he
            · omega
          | succ g ihg =>
            intro a t r hag hr he
            rw [zt_in_s] at he
            have hb := zb_top_b (t * 7391840562913847605 + 1027)
            have hm1 := Int.emod_nonneg 32 (show (n : Int) ≠ 0 by omega)
            have hm2 := Int.emod_lt_of_pos 32 (show (0 : Int) < n by omega)
            refine zg_il7 zd_Ref_bag_51 ?_
            refine zg_bipush zd_Ref_bag_53 (by decide) ?_
            refine zg_icmp_ge (tgt := 96) zd_Ref_bag_55 (by decide) (by omega) (by omega) (fun b55 => ?_) (fun b55 => ?_)
            · first
              | (exfalso; omega)
              | (rw [if_pos b70] at he; exact fin a t r hr he)
            · refine zg_il6 zd_Ref_bag_58 ?_
              refine zg_bipush zd_Ref_bag_60 (by decide) ?_
              refine zg_bipush zd_Ref_bag_62 (by decide) ?_
              refine zg_al0 zd_Ref_bag_64 ?_
              refine zg_geti zd_Ref_bag_65 zf_641 (by omega) (by first | assumption | rfl) rfl ?_
              rw [hTn]
              refine zg_irem (32 % (n : Int)) zd_Ref_bag_68 (by rw [zg_eq0 (by omega)]; omega) (zb_rem (by omega) (by omega) (by omega)) ?_
              refine zg_isub zd_Ref_bag_69 ?_
              refine zg_icmp_lt (tgt := 96) zd_Ref_bag_70 (by decide) (by omega) (by omega) (fun b70 => ?_) (fun b70 => ?_)
              · first
                | (exfalso; omega)
                | (rw [if_pos b70] at he; exact fin a t r hr he)
              · refine zg_ll3 zd_Ref_bag_73 ?_
                refine zg_ldc2 (7391840562913847605) zd_Ref_bag_74 zw_762 (by decide) ?_
                refine zg_lmul zd_Ref_bag_77 ?_
                refine zg_ldc2 (1027) zd_Ref_bag_78 zw_763 (by decide) ?_
                refine zg_ladd zd_Ref_bag_81 ?_
                refine zg_ls3 zd_Ref_bag_82 (fun w h => by cases h <;> rfl) (by decide) ?_
                refine zg_ll3 zd_Ref_bag_83 ?_
                refine zg_bipush zd_Ref_bag_84 (by decide) ?_
                refine zg_lushr (zb_top (t * 7391840562913847605 + 1027)) zd_Ref_bag_86 (zb_lushr _) ?_
                refine zg_l2i zd_Ref_bag_87 ?_
                refine zg_is6 zd_Ref_bag_88 (fun w h => by cases h <;> rfl) (by decide) ?_
                refine zg_inc7 zd_Ref_bag_90 (fun w h => by cases h <;> rfl) (by decide) ?_
                refine zg_goto (tgt := 51) zd_Ref_bag_93 (by decide) ?_
                rw [if_neg b70] at he; exact ihg (a + 1) _ _ (by omega) (by omega) he
        refine zg_il5 zd_Ref_bag_35 ?_
        refine zg_al0 zd_Ref_bag_37 ?_
        refine zg_geti zd_Ref_bag_38 zf_641 (by omega) (by first | assumption | rfl) rfl ?_
        rw [hTn]
        refine zg_icmp_ge (tgt := 118) zd_Ref_bag_41 (by decide) (by omega) (by omega) (fun b41 => ?_) (fun b41 => ?_)
        · omega
        · refine zg_bipush zd_Ref_bag_44 (by decide) ?_
          refine zg_is6 zd_Ref_bag_46 (fun w h => by cases h <;> rfl) (by decide) ?_
          refine zg_iconst zd_Ref_bag_48 ?_
          refine zg_is7 zd_Ref_bag_49 (fun w h => by cases h <;> rfl) (by decide) ?_
          exact inner 8 0 s 32 (by omega) (by omega) rfl
    have zer : ∀ (j i : Nat), i + j = 16 → zg_G Γ (fun _ => True) zm_Ref_bag (zg_rm 1 0 0) (zg_Ω Γ (Q) 0 0) 0 0 11 [some (zg_r Γ (223)), some (zg_l (z)), none, some (zg_i ((i : Nat))), none, none, none, none] [] zk_K 242 (zk_P sh) (zv_fill V 226 i 0) := by
      intro j
      induction j with
      | zero =>
        intro i hij
        have e : i = 16 := by omega
        subst e
        have e2 : zv_fill V 226 16 0 = zv_row V 226 (fun _ => 0) := by
          rw [zv_fill_row]
          congr 1
          funext q
          by_cases h : q < 16
          · simp [h]
          · simp only [h, if_false]; exact h0 q (by omega)
        have go := key n 0 z (fun _ => 0) none none (by omega) rfl
        rw [e2]
        refine zg_il3 zd_Ref_bag_11 ?_
        refine zg_bipush zd_Ref_bag_12 (by decide) ?_
        refine zg_icmp_ge (tgt := 30) zd_Ref_bag_14 (by decide) (by omega) (by omega) (fun b14 => ?_) (fun b14 => ?_)
        · refine zg_ll1 zd_Ref_bag_30 ?_
          refine zg_ls3 zd_Ref_bag_31 (fun w h => by cases h <;> rfl) (by decide) ?_
          refine zg_iconst zd_Ref_bag_32 ?_
          refine zg_is5 zd_Ref_bag_33 (fun w h => by cases h <;> rfl) (by decide) ?_
          exact go
        · omega
      | succ j ih =>
        intro i hij
        have ih := ih (i + 1) (by omega)
        rw [← zv_fill_s] at ih
        refine zg_il3 zd_Ref_bag_11 ?_
        refine zg_bipush zd_Ref_bag_12 (by decide) ?_
        refine zg_icmp_ge (tgt := 30) zd_Ref_bag_14 (by decide) (by omega) (by omega) (fun b14 => ?_) (fun b14 => ?_)
        · omega
        · refine zg_al0 zd_Ref_bag_17 ?_
          refine zg_getr zd_Ref_bag_18 zf_644 (by omega) (by first | assumption | rfl) rfl (by first | assumption | rfl) ?_
          refine zg_il3 zd_Ref_bag_21 ?_
          refine zg_iconst zd_Ref_bag_22 ?_
          refine zg_iast (j := i) zd_Ref_bag_23 (by omega) rfl rfl (by omega) (by decide) ?_
          refine zg_inc3 zd_Ref_bag_24 (fun w h => by cases h <;> rfl) (by decide) ?_
          refine zg_goto (tgt := 11) zd_Ref_bag_27 (by decide) ?_
          exact ih
    have z0 := zer 16 0 (by omega)
    rw [zv_fill_0] at z0
    refine zg_iconst zd_Ref_bag_9 ?_
    refine zg_is3 zd_Ref_bag_10 (fun w h => by cases h <;> rfl) (by decide) ?_
    exact z0
  refine zg_al0 zd_Ref_bag_0 ?_
  refine zg_geti zd_Ref_bag_1 zf_641 (by omega) (by first | assumption | rfl) rfl ?_
  rw [hn]
  refine zg_if_ne (tgt := 9) zd_Ref_bag_4 (by decide) (by omega) (fun b4 => ?_) (fun b4 => ?_)
  · exact body (by omega)
  · refine zg_iconst zd_Ref_bag_7 ?_
    refine zg_ireturn zd_Ref_bag_8 rfl ?_
    subst hQ
    refine ⟨rfl, rfl, rfl, ?_⟩
    show if _ then _ else _
    rw [if_pos (by omega)]
    exact ⟨rfl, rfl⟩
theorem cr_grow {n lim : Nat} {T : zj_T} {cr lf x : Int} (hx : -2147483648 ≤ x ∧ x < 2147483648) (hR : zj_R V n T cr) (hI : zj_I T n lim) (hcr : V 223 5 = cr) (hcrb : 0 ≤ cr ∧ cr ≤ 2) (hlim : V 223 6 = (lim : Int)) (hlimb : lim ≤ 4) (hlf : V 223 7 = lf) (hlfb : 1 ≤ lf ∧ lf ≤ 8) : zg_S Γ zm_Ref_grow 7 0 0 [zg_r Γ 223, zg_i x] zk_K 242 (zk_P sh) V (zq_r zk_K 242 (zk_P sh) (fun rr V' => if 1 ≤ x ∧ x ≤ 3 then rr = some (zg_i (zj_gc (zr_τ V n) cr lf lim x.toNat T)) ∧ zj_R V' n (zj_gr (zr_τ V n) cr lf lim x.toNat T) cr ∧ zr_ff V V' ∧ zv_on zr_tS V V' else rr = some (zg_i (-1)) ∧ V' = V)) := by
  have hn16 := hR.1.2.1
  have hok := zj_ok_r hR.1
  generalize hQ : zq_r zk_K 242 (zk_P sh) (fun rr V' => if 1 ≤ x ∧ x ≤ 3 then rr = some (zg_i (zj_gc (zr_τ V n) cr lf lim x.toNat T)) ∧ zj_R V' n (zj_gr (zr_τ V n) cr lf lim x.toNat T) cr ∧ zr_ff V V' ∧ zv_on zr_tS V V' else rr = some (zg_i (-1)) ∧ V' = V) = Q
  refine zg_enter 1 (by decide) (Nat.le_of_ble_eq_true rfl) rfl ?_
  have loop : 1 ≤ x ∧ x ≤ 3 → ∀ (j i : Nat) (U : zg_V) (T' : zj_T), i + j = x.toNat → zj_R U n T' cr → zj_I T' n lim → zr_ff V U → zv_on zr_tS V U → zj_gr (zr_τ V n) cr lf lim j T' = zj_gr (zr_τ V n) cr lf lim x.toNat T → (i : Int) + zj_gc (zr_τ V n) cr lf lim j T' = zj_gc (zr_τ V n) cr lf lim x.toNat T → zg_G Γ (fun _ => True) zm_Ref_grow (zg_rm 7 0 0) (zg_Ω Γ (Q) 0 0) 0 0 14 [some (zg_r Γ (223)), some (zg_i (x)), some (zg_i ((i : Nat)))] [] zk_K 242 (zk_P sh) (U) := by
    intro hx3 j
    induction j with
    | zero =>
      intro i U T' hij hR' hI' hff hon hgr hgc
      have e0 : zj_gr (zr_τ V n) cr lf lim 0 T' = T' := rfl
      have e1 : zj_gc (zr_τ V n) cr lf lim 0 T' = 0 := rfl
      rw [e0] at hgr
      rw [e1] at hgc
      refine zg_il2 zd_Ref_grow_14 ?_
      refine zg_il1 zd_Ref_grow_15 ?_
      refine zg_icmp_ge (tgt := 40) zd_Ref_grow_16 (by decide) (by omega) (by omega) (fun b16 => ?_) (fun b16 => ?_)
      · refine zg_il2 zd_Ref_grow_40 ?_
        refine zg_ireturn zd_Ref_grow_41 rfl ?_
        subst hQ
        refine ⟨rfl, rfl, rfl, ?_⟩
        show if _ then _ else _
        rw [if_pos hx3, ← hgr]
        exact ⟨by rw [show (i : Int) = zj_gc (zr_τ V n) cr lf lim x.toNat T by omega], hR', hff, hon⟩
      · omega
    | succ j ih =>
      intro i U T' hij hR' hI' hff hon hgr hgc
      have hst : ∀ k, k < 32 → 0 ≤ U 228 k ∧ U 228 k ≤ 3 := fun k hk => by
        have := hI'.1 k hk
        have := (hR'.2.1 k hk).1
        omega
      have hfw : zt_fw (fun k => U 228 k - 1) 31 1 = zt_fw T'.1 31 1 := zt_fw_c 31 1 (fun k _ h2 => by have := (hR'.2.1 k (by omega)).1; omega)
      have hg0 := zj_gr_0 (τ := zr_τ V n) (cr := cr) (lf := lf) (lim := lim) (T := T')
      have hgs := zj_gr_s (τ := zr_τ V n) (cr := cr) (lf := lf) (lim := lim) (T := T')
      have hww := zt_fw_w (f := T'.1) 31 1
      have hτU : zr_τ U n = zr_τ V n := by
        show (zr_va U, U 225, U 226, n) = (zr_va V, V 225, V 226, n)
        have hva : zr_va U = zr_va V := by unfold zr_va; rw [hon 224 (by unfold zr_tS; omega)]
        rw [hva, hon 225 (by unfold zr_tS; omega), hon 226 (by unfold zr_tS; omega)]
      generalize hw : zt_fw T'.1 31 1 = w at *
      have hstop : w = 0 → zg_G Γ (fun _ => True) zm_Ref_grow (zg_rm 7 0 0) (zg_Ω Γ (Q) 0 0) 0 0 40 [some (zg_r Γ (223)), some (zg_i (x)), some (zg_i ((i : Nat)))] [] zk_K 242 (zk_P sh) (U) := by
        intro hw0
        rw [(hg0 hw0 (j + 1)).1] at hgr
        rw [(hg0 hw0 (j + 1)).2] at hgc
        refine zg_il2 zd_Ref_grow_40 ?_
        refine zg_ireturn zd_Ref_grow_41 rfl ?_
        subst hQ
        refine ⟨rfl, rfl, rfl, ?_⟩
        show if _ then _ else _
        rw [if_pos hx3, ← hgr]
        exact ⟨by rw [show (i : Int) = zj_gc (zr_τ V n) cr lf lim x.toNat T by omega], hR', hff, hon⟩
      have hturn : w ≠ 0 → zg_G Γ (fun _ => True) zm_Ref_grow (zg_rm 7 0 0) (zg_Ω Γ (Q) 0 0) 0 0 26 [some (zg_r Γ (223)), some (zg_i (x)), some (zg_i ((i : Nat)))] [] zk_K 242 (zk_P sh) (U) := by
        intro hw0
        obtain ⟨w1, w2, w3⟩ : 1 ≤ w ∧ w < 32 ∧ T'.1 w = 0 := by
          rcases hww with q | ⟨q1, q2, q3⟩
          · exact absurd q hw0
          · exact ⟨q1, by omega, q3⟩
        have hs := zj_rows hI' hn16 w2
        have hs0 := (hR'.2.1 w w2).2
        have hdp := (zr_dp_2 ⟨w1, w2⟩ hlimb).1.mpr (hI'.2.2.2.2.2.2.1 w w1 w2 (by omega))
        have hz : w < 16 → U 229 (2 * w) = 0 ∧ U 229 (2 * w + 1) = 0 := fun h16 => by
          obtain ⟨c1, c2⟩ := hI'.2.2.2.2.2.1 w w1 h16 (by omega)
          have r1 := (hR'.2.1 (2 * w) (by omega)).2
          have r2 := (hR'.2.1 (2 * w + 1) (by omega)).2
          rw [hI'.2.2.2.1 _ (by omega) c1] at r1
          rw [hI'.2.2.2.1 _ (by omega) c2] at r2
          exact ⟨r1, r2⟩
        obtain ⟨L, hLs⟩ : ∃ L, ∀ f0 t0, zx_best (zr_τ U n) cr (T'.2.1 w) (zx_Ca (zr_τ U n) lf (T'.2.1 w)) f0 t0 → zy_Ls (zr_τ U n) (T'.2.1 w) f0 t0 3 L := by
          by_cases hb : ∃ q : Nat × Int, zx_best (zr_τ U n) cr (T'.2.1 w) (zx_Ca (zr_τ U n) lf (T'.2.1 w)) q.1 q.2
          · obtain ⟨⟨f0, t0⟩, hb⟩ := hb
            obtain ⟨L, hL⟩ := zy_Ls_ex hR'.1 (T'.2.1 w) f0 t0 3
            exact ⟨L, fun f1 t1 h1 => by obtain ⟨rfl, rfl⟩ := zx_best_u h1 hb; exact hL⟩
          · exact ⟨[], fun f0 t0 h => absurd ⟨(f0, t0), h⟩ hb⟩
        have nxt : ∀ U2 : zg_V, zr_sc U2 → zr_ff U U2 → zv_on zr_tS U U2 → zr_tn U U2 n (T'.2.1 w) w cr lf lim L → zg_G Γ (fun _ => True) zm_Ref_grow (zg_rm 7 0 0) (zg_Ω Γ (Q) 0 0) 0 0 34 [some (zg_r Γ (223)), some (zg_i (x)), some (zg_i ((i : Nat)))] [] zk_K 242 (zk_P sh) (U2) := by
          intro U2 hsc2 hff2 hon2 htn
          have r1 := zj_R_st hR' hI' ⟨w1, w2⟩ w3 hlimb hlfb.1 hLs hsc2 hff2 hon2 htn
          have i1 := zj_I_st (τ := zr_τ U n) (cr := cr) (lf := lf) (T := T') hI' ⟨w1, w2⟩ w3 hlimb (zj_ok_r hR'.1).1 (zj_ok_r hR'.1).2
          rw [hτU] at r1 i1
          have go := ih (i + 1) U2 (zj_st (zr_τ V n) cr lf lim T' w) (by omega) r1 i1 (fun q hq => by rw [hff2 q hq, hff q hq]) (zv_on_tr hon hon2) (by rw [← (hgs hw0 j).1]; exact hgr) (by have := (hgs hw0 j).2; omega)
          refine zg_inc2 zd_Ref_grow_34 (fun w h => by cases h <;> rfl) (by decide) ?_
          refine zg_goto (tgt := 14) zd_Ref_grow_37 (by decide) ?_
          exact go
        refine zg_al0 zd_Ref_grow_26 ?_
        refine zg_al0 zd_Ref_grow_27 ?_
        refine zg_cVp0 zd_Ref_grow_28 zM_Ref_waiting zw_773 zi_Ref_waiting zs_Ref_waiting (cr_waiting hst) (by decide) (by decide) (by omega) (by first | assumption | rfl) (by decide) rfl (Nat.le_of_ble_eq_true rfl) ?_
        rw [hfw]
        refine zg_cVr1 zd_Ref_grow_31 zM_Ref_turn zw_777 zi_Ref_turn zs_Ref_turn (cr_turn ⟨w1, w2⟩ hs hs0 (by rw [hff 5 (by omega)]; exact hcr) hcrb (by rw [hff 6 (by omega)]; exact hlim) (by omega) (by rw [hff 7 (by omega)]; exact hlf) hlfb hdp hz hR'.2.2.2 hR'.1 hLs) (by decide) (by decide) (by omega) (by first | assumption | rfl) (by decide) rfl (Nat.le_of_ble_eq_true rfl) ?_
        intro r U2 hq
        obtain ⟨rfl, q1, q2, q3, q4⟩ := hq
        exact nxt U2 q1 q2 q3 q4
      refine zg_il2 zd_Ref_grow_14 ?_
      refine zg_il1 zd_Ref_grow_15 ?_
      refine zg_icmp_ge (tgt := 40) zd_Ref_grow_16 (by decide) (by omega) (by omega) (fun b16 => ?_) (fun b16 => ?_)
      · first
        | (exfalso; omega)
        | exact hstop (by omega)
      · refine zg_al0 zd_Ref_grow_19 ?_
        refine zg_cVp0 zd_Ref_grow_20 zM_Ref_waiting zw_773 zi_Ref_waiting zs_Ref_waiting (cr_waiting hst) (by decide) (by decide) (by omega) (by first | assumption | rfl) (by decide) rfl (Nat.le_of_ble_eq_true rfl) ?_
        rw [hfw]
        refine zg_if_le (tgt := 40) zd_Ref_grow_23 (by decide) (by omega) (fun b23 => ?_) (fun b23 => ?_)
        · first
          | (exfalso; omega)
          | exact hstop (by omega)
        · exact hturn (by omega)
  refine zg_il1 zd_Ref_grow_0 ?_
  refine zg_iconst zd_Ref_grow_1 ?_
  refine zg_icmp_lt (tgt := 10) zd_Ref_grow_2 (by decide) (by omega) (by omega) (fun b2 => ?_) (fun b2 => ?_)
  · refine zg_iconst zd_Ref_grow_10 ?_
    refine zg_ireturn zd_Ref_grow_11 rfl ?_
    first
    | (exfalso; omega)
    | (subst hQ
       refine ⟨rfl, rfl, rfl, ?_⟩
       show if _ then _ else _
       rw [if_neg (by omega)]
       exact ⟨rfl, rfl⟩)
  · refine zg_il1 zd_Ref_grow_5 ?_
    refine zg_iconst zd_Ref_grow_6 ?_
    refine zg_icmp_le (tgt := 12) zd_Ref_grow_7 (by decide) (by omega) (by omega) (fun b7 => ?_) (fun b7 => ?_)
    · refine zg_iconst zd_Ref_grow_12 ?_
      refine zg_is2 zd_Ref_grow_13 (fun w h => by cases h <;> rfl) (by decide) ?_
      exact loop (by omega) x.toNat 0 V T (by omega) hR hI (fun _ _ => rfl) (fun _ _ => rfl) rfl (by omega)
    · refine zg_iconst zd_Ref_grow_10 ?_
      refine zg_ireturn zd_Ref_grow_11 rfl ?_
      first
      | (exfalso; omega)
      | (subst hQ
         refine ⟨rfl, rfl, rfl, ?_⟩
         show if _ then _ else _
         rw [if_neg (by omega)]
         exact ⟨rfl, rfl⟩)
end ZT48

