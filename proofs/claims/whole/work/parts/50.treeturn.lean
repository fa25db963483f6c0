/-! the tree: opening a node, a turn -/
def zt_nk (V V' : zg_V) (b s n : Nat) : Prop := V' b 0 = (s : Int) ∧ V' b 1 = ((zt_mj (V 19) (V 20) s n 4).1 : Int) ∧ V' b 2 = zt_w (V 20) s n - (zt_mj (V 19) (V 20) s n 4).2
theorem zt_tk_nk (V : zg_V) (b s n : Nat) : zt_nk V (zt_tk V b s n) b s n := by
  refine ⟨?_, ?_, ?_⟩ <;> simp [zt_tk, zg_u]
theorem zt_tk_o (V : zg_V) (b s n : Nat) {a : Nat} (h : a ≠ b) : zt_tk V b s n a = V a := by
  unfold zt_tk
  rw [zg_u_out _ _ _ _ h, zg_u_out _ _ _ _ h, zg_u_out _ _ _ _ h]
theorem zy_Ls_c {τ τ' : zx_τ} (h : zx_e τ τ') {s f0 m : Nat} {l0 : Int} {L : List zw_E} (hL : zy_Ls τ s f0 l0 m L) : zy_Ls τ' s f0 l0 m L := by
  obtain ⟨e, he, rfl⟩ := hL
  exact ⟨e, fun g hg => ⟨(he g hg).1, fun q => zy_is_c h ((he g hg).2 q)⟩, rfl⟩
/-- the reduced worth -/
def zx_wt (V' : zg_V) (b : Nat) (T B : Int) : Prop := V' b 0 = ((T.toNat / Nat.gcd T.toNat B.toNat : Nat) : Int) ∧ V' b 1 = ((B.toNat / Nat.gcd T.toNat B.toNat : Nat) : Int)
def zx_lean (τ : zx_τ) (s f0 : Nat) (t0 : Int) : Bool := decide (zx_R τ s f0 t0 ≤ zx_L τ s f0 t0)
def zt_gl (V : zg_V) (n s f0 : Nat) (t0 : Int) (L : List zw_E) (r : Nat) : Bool := zw_go ((f0, t0, false, 0) :: L) (zt_va V r) (zx_lean (zt_τ V n) s f0 t0)
def zt_tn (V V' : zg_V) (n s k : Nat) (cr lf : Int) (lim : Nat) : Prop :=
  ((2 ^ lim ≤ k ∨ ∀ f t, zx_Ca (zt_τ V n) lf s f t → zx_T (zt_τ V n) cr s f t = 0) ∧ zv_on (fun b => b = 201 ∨ b = 40 + 5 * k ∨ b = 41 + 5 * k ∨ (204 ≤ b ∧ b ≤ 213)) V V' ∧ (∀ j, j < 3 → V' (40 + 5 * k) j = V (40 + 5 * k) j) ∧ V' 201 = zg_u V 201 k 1 201) ∨
  (k < 2 ^ lim ∧ ∃ (f0 : Nat) (t0 : Int) (L : List zw_E), zx_best (zt_τ V n) cr s (zx_Ca (zt_τ V n) lf s) f0 t0 ∧ zy_Ls (zt_τ V n) s f0 t0 3 L ∧ zt_nd V' (40 + 5 * k) f0 t0 L (zx_lean (zt_τ V n) s f0 t0) ∧ zx_wt V' (41 + 5 * k) (zx_T (zt_τ V n) cr s f0 t0) (zx_B (zt_τ V n) cr s f0 t0) ∧ (∀ j, j < 3 → V' (40 + 5 * k) j = V (40 + 5 * k) j) ∧ V' 201 = zg_u (zg_u (zg_u V 201 k 2) 201 (2 * k) 0) 201 (2 * k + 1) 0 201 ∧
    zv_on (fun b => b = 201 ∨ (40 + 5 * k ≤ b ∧ b ≤ 44 + 5 * k) ∨ b = 40 + 5 * (2 * k) ∨ b = 40 + 5 * (2 * k + 1) ∨ (204 ≤ b ∧ b ≤ 213)) V V' ∧
    zt_nk V V' (40 + 5 * (2 * k)) (zs_mk (fun r => s.testBit r && zt_gl V n s f0 t0 L r) n) n ∧ zt_nk V V' (40 + 5 * (2 * k + 1)) (zb_df s (zs_mk (fun r => s.testBit r && zt_gl V n s f0 t0 L r) n)) n)
section ZT30
variable {Γ : zg_C} {V : zg_V} {k sh : Nat}
theorem ct_open (hk : k < 32) {s n : Nat} (hs : s < 65536) (hT : zt_T V n) : zg_S Γ zm_Tree_openNode 3 0 0 [zg_r Γ 0, zg_i k, zg_i s] zk_K 242 (zk_P sh) V (zq_p zk_K 242 (zk_P sh) (zg_u (zt_tk V (40 + 5 * k) s n) 201 k 0) none) := by
  have hkn := (zk_node k hk).1
  have hnode := zp_nodes (sh := sh) hk
  refine zg_enter 0 (by decide) (Nat.le_of_ble_eq_true rfl) rfl ?_
  refine zg_al0 zd_Tree_openNode_0 ?_
  refine zg_getr zd_Tree_openNode_1 zf_295 (by omega) (by first | assumption | rfl) rfl (by first | assumption | rfl) ?_
  refine zg_il1 zd_Tree_openNode_4 ?_
  refine zg_aald zd_Tree_openNode_5 (by omega) (by first | assumption | rfl) rfl rfl rfl (by omega) (by decide) (by first | assumption | rfl) ?_
  refine zg_al0 zd_Tree_openNode_6 ?_
  refine zg_getr zd_Tree_openNode_7 zf_293 (by omega) (by first | assumption | rfl) rfl (by first | assumption | rfl) ?_
  refine zg_il2 zd_Tree_openNode_10 ?_
  refine zg_cVq2 zd_Tree_openNode_11 zM_Node_takeRows zw_278 zi_Node_takeRows zs_Node_takeRows (ct_take hk hs hT) (by decide) (by decide) (by omega) (by first | assumption | rfl) (by decide) rfl (Nat.le_of_ble_eq_true rfl) ?_
  refine zg_al0 zd_Tree_openNode_14 ?_
  refine zg_getr zd_Tree_openNode_15 zf_296 (by omega) (by first | assumption | rfl) rfl (by first | assumption | rfl) ?_
  refine zg_getr zd_Tree_openNode_18 zf_174 (by omega) (by first | assumption | rfl) rfl (by first | assumption | rfl) ?_
  refine zg_il1 zd_Tree_openNode_21 ?_
  refine zg_iconst zd_Tree_openNode_22 ?_
  refine zg_iast zd_Tree_openNode_23 (by omega) (by first | assumption | rfl) rfl (by omega) (by decide) ?_
  refine zg_return zd_Tree_openNode_24 rfl ?_
  exact ⟨rfl, rfl, rfl, rfl, rfl⟩
theorem ct_turn {s n lim : Nat} {cr lf : Int} (hk : 1 ≤ k ∧ k < 32) (hs : s < 65536) (hs0 : V (40 + 5 * k) 0 = (s : Int)) (hcr : V 0 10 = cr) (hcrb : 0 ≤ cr ∧ cr ≤ 2) (hlim : V 0 11 = (lim : Int)) (hlimb : lim ≤ 4) (hlf : V 0 12 = lf) (hlfb : 1 ≤ lf ∧ lf ≤ 8) (hT : zt_T V n) : zg_S Γ zm_Tree_makeTurn 5 0 0 [zg_r Γ 0, zg_i k] zk_K 242 (zk_P sh) V (zq_r zk_K 242 (zk_P sh) (fun rr V' => rr = none ∧ zt_tn V V' n s k cr lf lim)) := by
  obtain ⟨hkn, hkw, -⟩ := zk_node k hk.2
  have hnode := zp_nodes (sh := sh) hk.2
  have hn16 := hT.2.1
  have hpow : 2 ^ lim ≤ 16 ∧ 1 ≤ 2 ^ lim := by
    have h1 : 2 ^ lim ≤ 2 ^ 4 := Nat.pow_le_pow_right (by decide) hlimb
    exact ⟨h1, Nat.one_le_two_pow⟩
  generalize hQ : zq_r zk_K 242 (zk_P sh) (fun rr V' => rr = none ∧ zt_tn V V' n s k cr lf lim) = Q
  refine zg_enter 3 (by decide) (Nat.le_of_ble_eq_true rfl) rfl ?_
  generalize hP : 2 ^ lim = P at hpow
  have e6 : Int32.ofInt 1 <<< (Int32.ofInt ((lim : Nat) : Int) &&& 31) = Int32.ofInt ((P : Nat) : Int) := by rw [← hP]; exact zb_shl lim (by omega)
  have leaf : ∀ (U : zg_V) (x : Int), zv_on (fun b => b = 40 + 5 * k ∨ b = 41 + 5 * k ∨ (204 ≤ b ∧ b ≤ 213)) V U → (∀ j, j < 3 → U (40 + 5 * k) j = V (40 + 5 * k) j) → (P ≤ k ∨ ∀ f t, zx_Ca (zt_τ V n) lf s f t → zx_T (zt_τ V n) cr s f t = 0) → zg_G Γ (fun _ => True) zm_Tree_makeTurn (zg_rm 5 0 0) (zg_Ω Γ (Q) 0 0) 0 0 50 [some (zg_r Γ (0)), some (zg_i (k)), some (zg_i (x)), some (zg_r Γ (40 + 5 * k)), none] [] zk_K 242 (zk_P sh) (U) := by
    intro U x hU hUn hC
    refine zg_al0 zd_Tree_makeTurn_50 ?_
    refine zg_getr zd_Tree_makeTurn_51 zf_296 (by omega) (by first | assumption | rfl) rfl (by first | assumption | rfl) ?_
    refine zg_getr zd_Tree_makeTurn_54 zf_174 (by omega) (by first | assumption | rfl) rfl (by first | assumption | rfl) ?_
    refine zg_il1 zd_Tree_makeTurn_57 ?_
    refine zg_iconst zd_Tree_makeTurn_58 ?_
    refine zg_iast zd_Tree_makeTurn_59 (by omega) (by first | assumption | rfl) rfl (by omega) (by decide) ?_
    refine zg_return zd_Tree_makeTurn_60 rfl ?_
    subst hQ
    refine ⟨rfl, rfl, rfl, rfl, Or.inl ⟨by rw [hP]; exact hC, fun b hb => ?_, fun j hj => ?_, ?_⟩⟩
    · rw [zg_u_out _ _ _ _ (by omega)]
      exact hU b (by omega)
    · rw [zg_u_out _ _ _ _ (by omega)]
      exact hUn j hj
    · funext j
      unfold zg_u
      rw [hU 201 (by omega)]
  have split : ∀ (V1 : zg_V) (f0 : Nat) (t0 x : Int), k < P → zx_best (zt_τ V n) cr s (zx_Ca (zt_τ V n) lf s) f0 t0 → zv_on (zx_S (40 + 5 * k)) V V1 → (∀ j, j ≠ 3 → j ≠ 4 → j ≠ 6 → V1 (40 + 5 * k) j = V (40 + 5 * k) j) → zx_wt V1 (41 + 5 * k) (zx_T (zt_τ V n) cr s f0 t0) (zx_B (zt_τ V n) cr s f0 t0) → V1 (40 + 5 * k) 3 = (f0 : Int) → V1 (40 + 5 * k) 4 = t0 → V1 (40 + 5 * k) 6 = zg_b (zx_lean (zt_τ V n) s f0 t0) → zg_G Γ (fun _ => True) zm_Tree_makeTurn (zg_rm 5 0 0) (zg_Ω Γ (Q) 0 0) 0 0 61 [some (zg_r Γ (0)), some (zg_i (k)), some (zg_i (x)), some (zg_r Γ (40 + 5 * k)), none] [] zk_K 242 (zk_P sh) (V1) := by
    intro V1 f0 t0 x hkP hbest h1 h1n h1w h13 h14 h16
    have hf3 : f0 < 3 := hbest.1.2
    have ht0b : -2147483648 ≤ t0 ∧ t0 < 2147483648 := zx_cut_rng hT hf3 hbest.1.1.1
    have hx1 : ∀ b, b < 21 → V1 b = V b := fun b hb => h1 b (by unfold zx_S; omega)
    have hT1 : zt_T V1 n := zt_T_fr hx1 hT
    have h10 : V1 (40 + 5 * k) 0 = (s : Int) := by rw [h1n 0 (by decide) (by decide) (by decide)]; exact hs0
    have rest : ∀ (V2 : zg_V) (L : List zw_E), zv_on (zy_S (40 + 5 * k)) V1 V2 → (∀ j, j ≠ 8 → V2 (40 + 5 * k) j = V1 (40 + 5 * k) j) → zt_ls V2 (40 + 5 * k) L → zy_Ls (zt_τ V n) s f0 t0 3 L → zg_G Γ (fun _ => True) zm_Tree_makeTurn (zg_rm 5 0 0) (zg_Ω Γ (Q) 0 0) 0 0 73 [some (zg_r Γ (0)), some (zg_i (k)), some (zg_i (x)), some (zg_r Γ (40 + 5 * k)), none] [] zk_K 242 (zk_P sh) (V2) := by
      intro V2 L h2 h2n h2L hLs
      have hx3 : ∀ b, b < 40 → zg_u V2 201 k 2 b = V b := fun b hb => by rw [zg_u_out _ _ _ _ (by omega), h2 b (by unfold zy_S; omega), h1 b (by unfold zx_S; omega)]
      have hT3 : zt_T (zg_u V2 201 k 2) n := zt_T_fr (fun b hb => hx3 b (by omega)) hT
      have h3o : ∀ b, b ≠ 201 → zg_u V2 201 k 2 b = V2 b := fun b hb => by rw [zg_u_out _ _ _ _ hb]
      have h30 : zg_u V2 201 k 2 (40 + 5 * k) 0 = (s : Int) := by rw [h3o _ (by omega), h2n 0 (by decide)]; exact h10
      have h3N : zt_nd (zg_u V2 201 k 2) (40 + 5 * k) f0 t0 L (zx_lean (zt_τ V n) s f0 t0) := by
        refine ⟨?_, hf3, ?_, ht0b, ?_, h2L.2.1, ?_, fun i e he => ?_⟩
        · rw [h3o _ (by omega), h2n 3 (by decide)]; exact h13
        · rw [h3o _ (by omega), h2n 4 (by decide)]; exact h14
        · rw [h3o _ (by omega)]; exact h2L.1
        · rw [h3o _ (by omega), h2n 6 (by decide)]; exact h16
        · have hi : i < L.length := (List.getElem?_eq_some_iff.mp he).1
          have := h2L.2.1
          exact zt_si_fr (fun j _ => by rw [h3o _ (by omega)]) (h2L.2.2 i e he)
      have hgl : zs_mk (fun r => s.testBit r && zw_go ((f0, t0, false, 0) :: L) (zt_va (zg_u V2 201 k 2) r) (zx_lean (zt_τ V n) s f0 t0)) n = zs_mk (fun r => s.testBit r && zt_gl V n s f0 t0 L r) n := by
        refine zs_mk_congr (fun i hi => ?_)
        unfold zt_gl
        rw [show zt_va (zg_u V2 201 k 2) i = zt_va V i from hx3 (3 + i) (by omega)]
      generalize hsl : zs_mk (fun r => s.testBit r && zt_gl V n s f0 t0 L r) n = sl at hgl
      have hsl16 : sl < 65536 := by rw [← hsl]; exact zt_mk16 hn16
      generalize hV3 : zg_u V2 201 k 2 = V3 at *
      have hV4o : ∀ b, b ≠ 201 → b ≠ 40 + 5 * (2 * k) → zg_u (zt_tk V3 (40 + 5 * (2 * k)) sl n) 201 (2 * k) 0 b = V3 b := fun b p q => by rw [zg_u_out _ _ _ _ p, zt_tk_o _ _ _ _ q]
      have hT4 : zt_T (zg_u (zt_tk V3 (40 + 5 * (2 * k)) sl n) 201 (2 * k) 0) n := zt_T_fr (fun b hb => by rw [hV4o b (by omega) (by omega)]; exact hx3 b (by omega)) hT
      have h40 : zg_u (zt_tk V3 (40 + 5 * (2 * k)) sl n) 201 (2 * k) 0 (40 + 5 * k) 0 = (s : Int) := by rw [hV4o _ (by omega) (by omega)]; exact h30
      have k1 : 2 * k < 32 := by omega
      have k2 : 2 * k + 1 < 32 := by omega
      have hnd2 := zp_nodes (sh := sh) k1
      have hnd3 := zp_nodes (sh := sh) k2
      have fin : ∀ V5 : zg_V, V5 = zg_u (zt_tk (zg_u (zt_tk V3 (40 + 5 * (2 * k)) sl n) 201 (2 * k) 0) (40 + 5 * (2 * k + 1)) (zb_df s sl) n) 201 (2 * k + 1) 0 → zt_tn V V5 n s k cr lf lim := by
        intro V5 hV5
        have o5 : ∀ b, b ≠ 201 → b ≠ 40 + 5 * (2 * k) → b ≠ 40 + 5 * (2 * k + 1) → V5 b = V3 b := fun b p q r => by rw [hV5, zg_u_out _ _ _ _ p, zt_tk_o _ _ _ _ r, hV4o b p q]
        have o52 : ∀ b, b ≠ 201 → b ≠ 40 + 5 * (2 * k) → b ≠ 40 + 5 * (2 * k + 1) → V5 b = V2 b := fun b p q r => by rw [o5 b p q r, ← hV3, zg_u_out _ _ _ _ p]
        refine Or.inr ⟨by rw [hP]; exact hkP, f0, t0, L, hbest, hLs, ?_, ?_, ?_, ?_, ?_, ?_, ?_⟩
        · obtain ⟨q1, q2, q3, q4, q5, q6, q7, q8⟩ := h3N
          refine ⟨by rw [o5 _ (by omega) (by omega) (by omega)]; exact q1, q2, by rw [o5 _ (by omega) (by omega) (by omega)]; exact q3, q4, by rw [o5 _ (by omega) (by omega) (by omega)]; exact q5, q6, by rw [o5 _ (by omega) (by omega) (by omega)]; exact q7, fun i e he => ?_⟩
          have hi : i < L.length := (List.getElem?_eq_some_iff.mp he).1
          exact zt_si_fr (fun j _ => by rw [o5 _ (by omega) (by omega) (by omega)]) (q8 i e he)
        · unfold zx_wt at h1w ⊢
          rw [o52 _ (by omega) (by omega) (by omega), h2 _ (by unfold zy_S; omega)]
          exact h1w
        · intro j hj
          rw [o52 _ (by omega) (by omega) (by omega), h2n j (by omega), h1n j (by omega) (by omega) (by omega)]
        · funext j
          have e2 : V2 201 = V 201 := by rw [h2 201 (by unfold zy_S; omega), h1 201 (by unfold zx_S; omega)]
          have e3 : V3 201 j = zg_u V 201 k 2 201 j := by rw [← hV3]; unfold zg_u; rw [e2]
          have t1 : ∀ (W : zg_V) (b s : Nat), b ≠ 201 → zt_tk W b s n 201 = W 201 := fun W b s h => zt_tk_o W b s n (fun q => h q.symm)
          rw [hV5]
          by_cases p1 : j = 2 * k + 1
          · rw [p1, zg_u_in, zg_u_in]
          · rw [zg_u_off _ _ _ _ p1, zg_u_off _ _ _ _ p1, t1 _ _ _ (by omega)]
            by_cases p2 : j = 2 * k
            · rw [p2, zg_u_in, zg_u_in]
            · rw [zg_u_off _ _ _ _ p2, zg_u_off _ _ _ _ p2, t1 _ _ _ (by omega), e3]
        · intro b hb
          rw [o52 b (by omega) (by omega) (by omega), h2 b (by unfold zy_S; omega), h1 b (by unfold zx_S; omega)]
        · rw [hsl]
          have := zt_tk_nk V3 (40 + 5 * (2 * k)) sl n
          unfold zt_nk at this ⊢
          rw [hx3 19 (by omega), hx3 20 (by omega)] at this
          rw [hV5, zg_u_out _ _ _ _ (by omega), zt_tk_o _ _ _ _ (by omega), zg_u_out _ _ _ _ (by omega)]
          exact this
        · rw [hsl]
          have := zt_tk_nk (zg_u (zt_tk V3 (40 + 5 * (2 * k)) sl n) 201 (2 * k) 0) (40 + 5 * (2 * k + 1)) (zb_df s sl) n
          unfold zt_nk at this ⊢
          rw [hV4o 19 (by omega) (by omega), hV4o 20 (by omega) (by omega), hx3 19 (by omega), hx3 20 (by omega)] at this
          rw [hV5, zg_u_out _ _ _ _ (by omega)]
          exact this
      refine zg_al0 zd_Tree_makeTurn_73 ?_
      refine zg_getr zd_Tree_makeTurn_74 zf_296 (by omega) (by first | assumption | rfl) rfl (by first | assumption | rfl) ?_
      refine zg_getr zd_Tree_makeTurn_77 zf_174 (by omega) (by first | assumption | rfl) rfl (by first | assumption | rfl) ?_
      refine zg_il1 zd_Tree_makeTurn_80 ?_
      refine zg_iconst zd_Tree_makeTurn_81 ?_
      refine zg_iast zd_Tree_makeTurn_82 (by omega) (by first | assumption | rfl) rfl (by omega) (by decide) ?_
      rw [hV3]
      refine zg_al3 zd_Tree_makeTurn_83 ?_
      refine zg_al0 zd_Tree_makeTurn_84 ?_
      refine zg_getr zd_Tree_makeTurn_85 zf_293 (by omega) (by first | assumption | rfl) rfl (by first | assumption | rfl) ?_
      refine zg_cVp1 zd_Tree_makeTurn_88 zM_Node_rowsGoingLeft zw_510 zi_Node_rowsGoingLeft zs_Node_rowsGoingLeft (ct_going hk.2 hs h30 hT3 h3N) (by decide) (by decide) (by omega) (by first | assumption | rfl) (by decide) rfl (Nat.le_of_ble_eq_true rfl) ?_
      rw [hgl]
      refine zg_is4 zd_Tree_makeTurn_91 (fun w h => by cases h <;> rfl) (by decide) ?_
      refine zg_al0 zd_Tree_makeTurn_93 ?_
      refine zg_iconst zd_Tree_makeTurn_94 ?_
      refine zg_il1 zd_Tree_makeTurn_95 ?_
      refine zg_imul zd_Tree_makeTurn_96 ?_
      rw [show 2 * (k : Int) = ((2 * k : Nat) : Int) by omega]
      refine zg_il4 zd_Tree_makeTurn_97 ?_
      refine zg_cVq2 zd_Tree_makeTurn_99 zM_Tree_openNode zw_274 zi_Tree_openNode zs_Tree_openNode (ct_open k1 hsl16 hT3) (by decide) (by decide) (by omega) (by first | assumption | rfl) (by decide) rfl (Nat.le_of_ble_eq_true rfl) ?_
      refine zg_al0 zd_Tree_makeTurn_102 ?_
      refine zg_iconst zd_Tree_makeTurn_103 ?_
      refine zg_il1 zd_Tree_makeTurn_104 ?_
      refine zg_imul zd_Tree_makeTurn_105 ?_
      refine zg_iconst zd_Tree_makeTurn_106 ?_
      refine zg_iadd zd_Tree_makeTurn_107 ?_
      rw [show 2 * (k : Int) + 1 = ((2 * k + 1 : Nat) : Int) by omega]
      refine zg_al3 zd_Tree_makeTurn_108 ?_
      refine zg_geti zd_Tree_makeTurn_109 zf_120 (by omega) (by first | assumption | rfl) rfl ?_
      rw [h40]
      refine zg_il4 zd_Tree_makeTurn_112 ?_
      refine zg_iconst zd_Tree_makeTurn_114 ?_
      refine zg_ixorR zd_Tree_makeTurn_115 ?_
      refine zg_iand ((zb_df s sl : Nat) : Int) zd_Tree_makeTurn_116 (zb_andnot _ _) ?_
      refine zg_cVq2 zd_Tree_makeTurn_117 zM_Tree_openNode zw_274 zi_Tree_openNode zs_Tree_openNode (ct_open k2 (zr_df16 hs _) hT4) (by decide) (by decide) (by omega) (by first | assumption | rfl) (by decide) rfl (Nat.le_of_ble_eq_true rfl) ?_
      refine zg_return zd_Tree_makeTurn_120 rfl ?_
      subst hQ; exact ⟨rfl, rfl, rfl, rfl, fin _ rfl⟩
    refine zg_al0 zd_Tree_makeTurn_61 ?_
    refine zg_getr zd_Tree_makeTurn_62 zf_299 (by omega) (by first | assumption | rfl) rfl (by first | assumption | rfl) ?_
    refine zg_al0 zd_Tree_makeTurn_65 ?_
    refine zg_getr zd_Tree_makeTurn_66 zf_293 (by omega) (by first | assumption | rfl) rfl (by first | assumption | rfl) ?_
    refine zg_al3 zd_Tree_makeTurn_69 ?_
    refine zg_cVr2 zd_Tree_makeTurn_70 zM_StandInSearch_findFor zw_483 zi_StandInSearch_findFor zs_StandInSearch_findFor (ct_findFor hk.2 hs h10 h13 hf3 h14 ht0b hT1) (by decide) (by decide) (by omega) (by first | assumption | rfl) (by decide) rfl (Nat.le_of_ble_eq_true rfl) ?_
    intro r V2 hq
    obtain ⟨rfl, q1, q2, L, q3, q4⟩ := hq
    exact rest V2 L q1 q2 q3 (zy_Ls_c (zx_e_V hn16 hx1) q4)
  have c23 : ∀ x : Int, ((x = 1 ∧ P ≤ k) ∨ (x = 0 ∧ k < P)) → zg_G Γ (fun _ => True) zm_Tree_makeTurn (zg_rm 5 0 0) (zg_Ω Γ (Q) 0 0) 0 0 23 [some (zg_r Γ (0)), some (zg_i (k)), some (zg_i (x)), some (zg_r Γ (40 + 5 * k)), none] [] zk_K 242 (zk_P sh) (V) := by
    intro x hx
    refine zg_il2 zd_Tree_makeTurn_23 ?_
    refine zg_if_ne (tgt := 50) zd_Tree_makeTurn_24 (by decide) (by omega) (fun b24 => ?_) (fun b24 => ?_)
    · first
      | exact leaf V x (fun b _ => rfl) (fun j _ => rfl) (Or.inl (by omega))
      | (refine leaf V1 x (fun b hb => q1 b (by unfold zx_S; omega)) (fun j hj => q2 j (by omega) (by omega) (by omega)) (Or.inr ?_)
         have hF : ¬ 0 < V1 (41 + 5 * k) 0 := of_decide_eq_false b47
         rcases q3 with ⟨-, -, h⟩ | ⟨f0, t0, g1, g2, g3, g4, g5, g6, g7, g8⟩
         · exact h
         · exfalso
           have hb := zx_TB_b hT (cr := cr) hlfb.1 g1.1
           have hg : Nat.gcd (zx_T (zt_τ V n) cr s f0 t0).toNat (zx_B (zt_τ V n) cr s f0 t0).toNat ≤ (zx_T (zt_τ V n) cr s f0 t0).toNat := Nat.le_of_dvd (by omega) (Nat.gcd_dvd_left _ _)
           have hg0 : 0 < Nat.gcd (zx_T (zt_τ V n) cr s f0 t0).toNat (zx_B (zt_τ V n) cr s f0 t0).toNat := Nat.gcd_pos_of_pos_left _ (by omega)
           have hd := Nat.div_pos hg hg0
           rw [show 40 + 5 * k + 1 = 41 + 5 * k by omega] at g3
           rw [g3] at hF
           exact hF (Int.natCast_pos.mpr hd))
    · refine zg_al0 zd_Tree_makeTurn_27 ?_
      refine zg_getr zd_Tree_makeTurn_28 zf_298 (by omega) (by first | assumption | rfl) rfl (by first | assumption | rfl) ?_
      refine zg_al0 zd_Tree_makeTurn_31 ?_
      refine zg_getr zd_Tree_makeTurn_32 zf_293 (by omega) (by first | assumption | rfl) rfl (by first | assumption | rfl) ?_
      refine zg_al3 zd_Tree_makeTurn_35 ?_
      refine zg_al0 zd_Tree_makeTurn_36 ?_
      refine zg_geti zd_Tree_makeTurn_37 zf_303 (by omega) (by first | assumption | rfl) rfl ?_
      rw [hcr]
      refine zg_al0 zd_Tree_makeTurn_40 ?_
      refine zg_geti zd_Tree_makeTurn_41 zf_305 (by omega) (by first | assumption | rfl) rfl ?_
      rw [hlf]
      refine zg_cVr4 zd_Tree_makeTurn_44 zM_SplitSearch_findBest zw_401 zi_SplitSearch_findBest zs_SplitSearch_findBest (ct_best hk.2 hs hs0 hcrb hlfb hT) (by decide) (by decide) (by omega) (by first | assumption | rfl) (by decide) rfl (Nat.le_of_ble_eq_true rfl) ?_
      intro r V1 hq
      obtain ⟨rfl, q1, q2, q3⟩ := hq
      refine zg_if_neB (tgt := 61) zd_Tree_makeTurn_47 (by decide) (fun b47 => ?_) (fun b47 => ?_)
      · have hF : 0 < V1 (41 + 5 * k) 0 := of_decide_eq_true b47
        rcases q3 with ⟨h, -, -⟩ | ⟨f0, t0, g1, g2, g3, g4, g5, g6, g7, g8⟩
        · rw [show 40 + 5 * k + 1 = 41 + 5 * k by omega] at h
          omega
        · rw [show 40 + 5 * k + 1 = 41 + 5 * k by omega] at g3 g4
          exact split V1 f0 t0 x (by omega) ⟨g1, g2, g8⟩ q1 q2 ⟨g3, g4⟩ g5 g6 g7
      · first
        | exact leaf V x (fun b _ => rfl) (fun j _ => rfl) (Or.inl (by omega))
        | (refine leaf V1 x (fun b hb => q1 b (by unfold zx_S; omega)) (fun j hj => q2 j (by omega) (by omega) (by omega)) (Or.inr ?_)
           have hF : ¬ 0 < V1 (41 + 5 * k) 0 := of_decide_eq_false b47
           rcases q3 with ⟨-, -, h⟩ | ⟨f0, t0, g1, g2, g3, g4, g5, g6, g7, g8⟩
           · exact h
           · exfalso
             have hb := zx_TB_b hT (cr := cr) hlfb.1 g1.1
             have hg : Nat.gcd (zx_T (zt_τ V n) cr s f0 t0).toNat (zx_B (zt_τ V n) cr s f0 t0).toNat ≤ (zx_T (zt_τ V n) cr s f0 t0).toNat := Nat.le_of_dvd (by omega) (Nat.gcd_dvd_left _ _)
             have hg0 : 0 < Nat.gcd (zx_T (zt_τ V n) cr s f0 t0).toNat (zx_B (zt_τ V n) cr s f0 t0).toNat := Nat.gcd_pos_of_pos_left _ (by omega)
             have hd := Nat.div_pos hg hg0
             rw [show 40 + 5 * k + 1 = 41 + 5 * k by omega] at g3
             rw [g3] at hF
             exact hF (Int.natCast_pos.mpr hd))
  refine zg_il1 zd_Tree_makeTurn_0 ?_
  refine zg_iconst zd_Tree_makeTurn_1 ?_
  refine zg_al0 zd_Tree_makeTurn_2 ?_
  refine zg_geti zd_Tree_makeTurn_3 zf_304 (by omega) (by first | assumption | rfl) rfl ?_
  rw [hlim]
  refine zg_ishl ((P : Nat) : Int) zd_Tree_makeTurn_6 e6 ?_
  refine zg_icmp_lt (tgt := 14) zd_Tree_makeTurn_7 (by decide) (by omega) (by omega) (fun b7 => ?_) (fun b7 => ?_)
  · refine zg_iconst zd_Tree_makeTurn_14 ?_
    refine zg_is2 zd_Tree_makeTurn_15 (fun w h => by cases h <;> rfl) (by decide) ?_
    refine zg_al0 zd_Tree_makeTurn_16 ?_
    refine zg_getr zd_Tree_makeTurn_17 zf_295 (by omega) (by first | assumption | rfl) rfl (by first | assumption | rfl) ?_
    refine zg_il1 zd_Tree_makeTurn_20 ?_
    refine zg_aald zd_Tree_makeTurn_21 (by omega) (by first | assumption | rfl) rfl rfl rfl (by omega) (by decide) (by first | assumption | rfl) ?_
    refine zg_as3 zd_Tree_makeTurn_22 (fun w h => by cases h <;> rfl) (by decide) ?_
    exact c23 _ (by omega)
  · refine zg_iconst zd_Tree_makeTurn_10 ?_
    refine zg_goto (tgt := 15) zd_Tree_makeTurn_11 (by decide) ?_
    refine zg_is2 zd_Tree_makeTurn_15 (fun w h => by cases h <;> rfl) (by decide) ?_
    refine zg_al0 zd_Tree_makeTurn_16 ?_
    refine zg_getr zd_Tree_makeTurn_17 zf_295 (by omega) (by first | assumption | rfl) rfl (by first | assumption | rfl) ?_
    refine zg_il1 zd_Tree_makeTurn_20 ?_
    refine zg_aald zd_Tree_makeTurn_21 (by omega) (by first | assumption | rfl) rfl rfl rfl (by omega) (by decide) (by first | assumption | rfl) ?_
    refine zg_as3 zd_Tree_makeTurn_22 (fun w h => by cases h <;> rfl) (by decide) ?_
    exact c23 _ (by omega)
end ZT30

