/-! the reference: a turn -/
/-- the best split among the candidates -/
def zx_best (τ : zx_τ) (cr : Int) (s : Nat) (C : Nat → Int → Prop) (f0 : Nat) (t0 : Int) : Prop :=
  C f0 t0 ∧ 0 < zx_T τ cr s f0 t0 ∧ ∀ f t, C f t → zx_T τ cr s f t * zx_B τ cr s f0 t0 ≤ zx_T τ cr s f0 t0 * zx_B τ cr s f t ∧ (zx_T τ cr s f t * zx_B τ cr s f0 t0 = zx_T τ cr s f0 t0 * zx_B τ cr s f t → f0 < f ∨ (f0 = f ∧ t0 ≤ t))
abbrev zx_Ca (τ : zx_τ) (lf : Int) (s : Nat) : Nat → Int → Prop := fun f t => zx_ok τ lf s f t ∧ f < 3
theorem zx_best_u {τ : zx_τ} {cr : Int} {s : Nat} {C : Nat → Int → Prop} {f0 f1 : Nat} {t0 t1 : Int} (h0 : zx_best τ cr s C f0 t0) (h1 : zx_best τ cr s C f1 t1) : f0 = f1 ∧ t0 = t1 := by
  have a := h0.2.2 f1 t1 h1.1
  have b := h1.2.2 f0 t0 h0.1
  have e : zx_T τ cr s f1 t1 * zx_B τ cr s f0 t0 = zx_T τ cr s f0 t0 * zx_B τ cr s f1 t1 := by omega
  have a' := a.2 e
  have b' := b.2 e.symm
  omega
theorem zr_bs_best {τ : zx_τ} {cr : Int} {s : Nat} {C : Nat → Int → Prop} {T0 B0 F tb : Int} (h : zr_bs τ cr s C T0 B0 F tb) : (F = -1 ∧ ∀ f t, C f t → zx_T τ cr s f t = 0) ∨ ∃ f0 : Nat, F = (f0 : Int) ∧ zx_best τ cr s C f0 tb := by
  rcases h with ⟨h1, h2, h3, h4⟩ | ⟨f0, t0, g1, g2, g3, g4, g5, g6, g7⟩
  · exact Or.inl ⟨h3, h4⟩
  · subst g6
    exact Or.inr ⟨f0, g5, g1, g2, g7⟩
def zr_sc (V : zg_V) : Prop := (-2147483648 ≤ V 223 18 ∧ V 223 18 < 2147483648) ∧ (-2147483648 ≤ V 223 24 ∧ V 223 24 < 2147483648) ∧ (0 ≤ V 223 25 ∧ V 223 25 ≤ 1)
def zr_ff (V V' : zg_V) : Prop := ∀ j, j < 15 ∨ (19 < j ∧ j < 24) ∨ 26 < j → V' 223 j = V 223 j
abbrev zr_tS : Nat → Prop := fun b => b = 223 ∨ (228 ≤ b ∧ b ≤ 235)
/-- row r goes left -/
def zr_gl (V : zg_V) (n s f0 : Nat) (t0 : Int) (L : List zw_E) (r : Nat) : Bool := zw_go ((f0, t0, false, 0) :: L) (zr_x (V 224 (3 * r)) (V 224 (3 * r + 1)) (V 224 (3 * r + 2))) (zr_lean (zr_τ V n) s f0 t0)
def zr_tn (V V' : zg_V) (n s k : Nat) (cr lf lim : Int) (L : List zw_E) : Prop :=
  ((zr_dp k = lim ∨ ∀ f t, zx_Ca (zr_τ V n) lf s f t → zx_T (zr_τ V n) cr s f t = 0) ∧ V' 228 = zg_u V 228 k 2 228 ∧ V' 229 = V 229 ∧ V' 230 = V 230 ∧ V' 231 = V 231) ∨
  (zr_dp k ≠ lim ∧ k < 16 ∧ ∃ (f0 : Nat) (t0 : Int), zx_best (zr_τ V n) cr s (zx_Ca (zr_τ V n) lf s) f0 t0 ∧ V' 228 = zg_u (zg_u (zg_u V 228 k 3) 228 (2 * k) 1) 228 (2 * k + 1) 1 228 ∧ V' 230 = zg_u V 230 k f0 230 ∧ V' 231 = zg_u V 231 k t0 231 ∧ (∀ j, j ≠ 2 * k → j ≠ 2 * k + 1 → V' 229 j = V 229 j) ∧ V' 229 (2 * k) = (zs_mk (fun r => s.testBit r && zr_gl V n s f0 t0 L r) n : Nat) ∧ V' 229 (2 * k + 1) = (zs_mk (fun r => s.testBit r && !zr_gl V n s f0 t0 L r) n : Nat))
theorem zr_dp_16 {k : Nat} {lim : Int} (h : zr_dp k ≤ lim) (hne : zr_dp k ≠ lim) (hl : lim ≤ 4) : k < 16 := by
  unfold zr_dp at h hne
  split at h
  · omega
  · split at h
    · omega
    · split at h
      · omega
      · split at h
        · omega
        · rename_i h1 h2 h3 h4
          rw [if_neg h1, if_neg h2, if_neg h3, if_neg h4] at hne
          omega
theorem zr_dp_b (k : Int) : 0 ≤ zr_dp k ∧ zr_dp k ≤ 4 := by
  unfold zr_dp
  repeat' split
  all_goals omega
theorem zr_cut_rng {V : zg_V} {n p f : Nat} {t : Int} (hT : zr_T V n) (hf : f < 3) (h : zx_cut (zr_τ V n) p f t) : -2147483648 ≤ t ∧ t < 2147483648 := by
  obtain ⟨u, v, ⟨r, q1, -, rfl⟩, ⟨r', q1', -, rfl⟩, -, -, rfl⟩ := h
  have hr : r < n := q1
  have hr' : r' < n := q1'
  have h16 := hT.2.1
  have := hT.2.2.1 r f (by omega) hf
  have := hT.2.2.1 r' f (by omega) hf
  show _ ≤ (V 224 (3 * r + f) + V 224 (3 * r' + f)) / 2 ∧ (V 224 (3 * r + f) + V 224 (3 * r' + f)) / 2 < _
  omega
section ZT26
variable {Γ : zg_C} {V : zg_V} {sh : Nat}
theorem cr_turn {k s n : Nat} {cr lf lim : Int} {L : List zw_E} (hk : 1 ≤ k ∧ k < 32) (hs : s < 65536) (hs0 : V 229 k = (s : Int)) (hcr : V 223 5 = cr) (hcrb : 0 ≤ cr ∧ cr ≤ 2) (hlim : V 223 6 = lim) (hlimb : 0 ≤ lim ∧ lim ≤ 4) (hlf : V 223 7 = lf) (hlfb : 1 ≤ lf ∧ lf ≤ 8) (hd : zr_dp k ≤ lim) (hz : k < 16 → V 229 (2 * k) = 0 ∧ V 229 (2 * k + 1) = 0) (hsc : zr_sc V) (hT : zr_T V n) (hLs : ∀ f0 t0, zx_best (zr_τ V n) cr s (zx_Ca (zr_τ V n) lf s) f0 t0 → zy_Ls (zr_τ V n) s f0 t0 3 L) : zg_S Γ zm_Ref_turn 6 0 0 [zg_r Γ 223, zg_i k] zk_K 242 (zk_P sh) V (zq_r zk_K 242 (zk_P sh) (fun rr V' => rr = none ∧ zr_sc V' ∧ zr_ff V V' ∧ zv_on zr_tS V V' ∧ zr_tn V V' n s k cr lf lim L)) := by
  have hn16 := hT.2.1
  have hdb := zr_dp_b k
  generalize hQ : zq_r zk_K 242 (zk_P sh) (fun rr V' => rr = none ∧ zr_sc V' ∧ zr_ff V V' ∧ zv_on zr_tS V V' ∧ zr_tn V V' n s k cr lf lim L) = Q
  refine zg_enter 2 (by decide) (Nat.le_of_ble_eq_true rfl) rfl ?_
  -- a leaf
  have leaf : ∀ U : zg_V, zv_on (fun b => b = 223) V U → zr_ff V U → zr_sc U → (zr_dp k = lim ∨ ∀ f t, zx_Ca (zr_τ V n) lf s f t → zx_T (zr_τ V n) cr s f t = 0) → zg_G Γ (fun _ => True) zm_Ref_turn (zg_rm 6 0 0) (zg_Ω Γ (Q) 0 0) 0 0 19 [some (zg_r Γ (223)), some (zg_i (k)), none, none] [] zk_K 242 (zk_P sh) (U) := by
    intro U hU hUf hUs hC
    refine zg_al0 zd_Ref_turn_19 ?_
    refine zg_getr zd_Ref_turn_20 zf_649 (by omega) (by first | assumption | rfl) rfl (by first | assumption | rfl) ?_
    refine zg_il1 zd_Ref_turn_23 ?_
    refine zg_iconst zd_Ref_turn_24 ?_
    refine zg_iast zd_Ref_turn_25 (by omega) (by first | assumption | rfl) rfl (by omega) (by decide) ?_
    refine zg_return zd_Ref_turn_26 rfl ?_
    subst hQ
    refine ⟨rfl, rfl, rfl, rfl, ?_, ?_, ?_, Or.inl ⟨hC, ?_, ?_, ?_, ?_⟩⟩
    · unfold zr_sc
      rw [zg_u_out _ _ _ _ (by decide)]
      exact hUs
    · intro j hj
      rw [zg_u_out _ _ _ _ (by decide)]
      exact hUf j hj
    · intro b hb
      rw [zg_u_out _ _ _ _ (by omega)]
      exact hU b (by omega)
    · funext j
      unfold zg_u
      rw [hU 228 (by decide)]
    · rw [zg_u_out _ _ _ _ (by decide)]; exact hU 229 (by decide)
    · rw [zg_u_out _ _ _ _ (by decide)]; exact hU 230 (by decide)
    · rw [zg_u_out _ _ _ _ (by decide)]; exact hU 231 (by decide)
  have split : ∀ (U0 : zg_V) (f0 : Nat), zv_on (fun b => b = 223) V U0 → zr_ff V U0 → zr_sc U0 → zr_dp k ≠ lim → U0 223 17 = (f0 : Int) → zx_best (zr_τ V n) cr s (zx_Ca (zr_τ V n) lf s) f0 (U0 223 18) → zg_G Γ (fun _ => True) zm_Ref_turn (zg_rm 6 0 0) (zg_Ω Γ (Q) 0 0) 0 0 27 [some (zg_r Γ (223)), some (zg_i (k)), none, none] [] zk_K 242 (zk_P sh) (U0) := by
    intro U0 f0 hU0 hU0f hU0s hne h17 hbest
    have hk16 := zr_dp_16 hd hne hlimb.2
    generalize ht0 : U0 223 18 = t0 at hbest
    have hf3 : f0 < 3 := hbest.1.2
    have ht0b : -2147483648 ≤ t0 ∧ t0 < 2147483648 := by rw [← ht0]; exact hU0s.1
    have hL := hLs f0 t0 hbest
    obtain ⟨z1, z2⟩ := hz hk16
    have loop : ∀ (j m : Nat) (U : zg_V) (o3 : Option Value) (hij : m + j = n) (hUS : zv_on zr_tS V U) (hUf : zr_ff V U) (hUs : zr_sc U) (u228 : U 228 = zg_u (zg_u (zg_u V 228 k 3) 228 (2 * k) 1) 228 (2 * k + 1) 1 228) (u230 : U 230 = zg_u V 230 k f0 230) (u231 : U 231 = zg_u V 231 k t0 231) (u229 : ∀ j, j ≠ 2 * k → j ≠ 2 * k + 1 → U 229 j = V 229 j) (ul : U 229 (2 * k) = (zs_mk (fun r => s.testBit r && zr_gl V n s f0 t0 L r) m : Nat)) (ur : U 229 (2 * k + 1) = (zs_mk (fun r => s.testBit r && !zr_gl V n s f0 t0 L r) m : Nat)), zg_G Γ (fun _ => True) zm_Ref_turn (zg_rm 6 0 0) (zg_Ω Γ (Q) 0 0) 0 0 76 [some (zg_r Γ (223)), some (zg_i (k)), some (zg_i ((m : Nat))), o3] [] zk_K 242 (zk_P sh) (U) := by
      intro j
      induction j with
      | zero =>
        intro m U o3 hij hUS hUf hUs u228 u230 u231 u229 ul ur
        have e : m = n := by omega
        subst e
        have hUn : U 223 0 = (m : Int) := by rw [hUf 0 (by omega)]; exact hT.1
        refine zg_il2 zd_Ref_turn_76 ?_
        refine zg_al0 zd_Ref_turn_77 ?_
        refine zg_geti zd_Ref_turn_78 zf_641 (by omega) (by first | assumption | rfl) rfl ?_
        rw [hUn]
        refine zg_icmp_ge (tgt := 149) zd_Ref_turn_81 (by decide) (by omega) (by omega) (fun b81 => ?_) (fun b81 => ?_)
        · refine zg_return zd_Ref_turn_149 rfl ?_
          subst hQ
          exact ⟨rfl, rfl, rfl, rfl, hUs, hUf, hUS, Or.inr ⟨hne, hk16, f0, t0, hbest, u228, u230, u231, u229, ul, ur⟩⟩
        · omega
      | succ j ih =>
        intro m U o3 hij hUS hUf hUs u228 u230 u231 u229 ul ur
        have hUn : U 223 0 = (n : Int) := by rw [hUf 0 (by omega)]; exact hT.1
        have hx : ∀ b, b ≠ 223 → b < 228 → U b = V b := fun b h1 h2 => hUS b (by omega)
        have hTU : zr_T U n := zr_T_fr (fun b h1 h2 => hx b h1 (by omega)) (hUf 0 (by omega)) hT
        have hva : zr_va U = zr_va V := by unfold zr_va; rw [hx 224 (by decide) (by decide)]
        have hτ : zr_τ U n = zr_τ V n := by
          show (zr_va U, U 225, U 226, n) = (zr_va V, V 225, V 226, n)
          rw [hva, hx 225 (by decide) (by decide), hx 226 (by decide) (by decide)]
        have hU224 : U 224 = V 224 := hx 224 (by decide) (by decide)
        have us0 : U 229 k = (s : Int) := by rw [u229 k (by omega) (by omega)]; exact hs0
        have uf0 : U 230 k = (f0 : Int) := by rw [u230, zg_u_in]
        have ul0 : U 231 k = t0 := by rw [u231, zg_u_in]
        have v0 := hT.2.2.1 m 0 (by omega) (by omega)
        have v1 := hT.2.2.1 m 1 (by omega) (by omega)
        have v2 := hT.2.2.1 m 2 (by omega) (by omega)
        rw [Nat.add_zero] at v0
        -- the row is not here
        have skip : s.testBit m = false → ∀ o3, zg_G Γ (fun _ => True) zm_Ref_turn (zg_rm 6 0 0) (zg_Ω Γ (Q) 0 0) 0 0 76 [some (zg_r Γ (223)), some (zg_i (k)), some (zg_i (((m : Nat) : Int) + 1)), o3] [] zk_K 242 (zk_P sh) (U) := fun h o3 => ih (m + 1) U o3 (by omega) hUS hUf hUs u228 u230 u231 u229 (by rw [ul, zs_mk_s, h, Bool.false_and, if_neg (by decide)]) (by rw [ur, zs_mk_s, h, Bool.false_and, if_neg (by decide)])
        -- the row is here
        have here : s.testBit m = true → ∀ (U1 : zg_V), zr_zi U U1 → zg_G Γ (fun _ => True) zm_Ref_turn (zg_rm 6 0 0) (zg_Ω Γ (Q) 0 0) 0 0 130 [some (zg_r Γ (223)), some (zg_i (k)), some (zg_i ((m : Nat))), o3] [(zg_i (2 * (k : Int) + zg_b (!zr_gl V n s f0 t0 L m)))] zk_K 242 (zk_P sh) (U1) := by
          intro hbit U1 hU1
          have w228 : U1 228 = U 228 := hU1.1 228 (by decide)
          have w229 : U1 229 = U 229 := hU1.1 229 (by decide)
          have w230 : U1 230 = U 230 := hU1.1 230 (by decide)
          have w231 : U1 231 = U 231 := hU1.1 231 (by decide)
          have wf : zr_ff V U1 := fun j hj => by rw [hU1.2.1 j (by omega)]; exact hUf j hj
          have ws : zr_sc U1 := ⟨by rw [hU1.2.1 18 (by omega)]; exact hUs.1, hU1.2.2.1, hU1.2.2.2⟩
          have wS : zv_on zr_tS V U1 := fun b hb => by rw [hU1.1 b (by omega)]; exact hUS b hb
          have wr : ∀ (c x : Nat), (c = 2 * k ∨ c = 2 * k + 1) → U1 229 c = (x : Int) → ((2 * k = c → (s.testBit m && zr_gl V n s f0 t0 L m) = true) ∧ (2 * k ≠ c → (s.testBit m && zr_gl V n s f0 t0 L m) = false)) → ((2 * k + 1 = c → (s.testBit m && !zr_gl V n s f0 t0 L m) = true) ∧ (2 * k + 1 ≠ c → (s.testBit m && !zr_gl V n s f0 t0 L m) = false)) → zg_G Γ (fun _ => True) zm_Ref_turn (zg_rm 6 0 0) (zg_Ω Γ (Q) 0 0) 0 0 131 [some (zg_r Γ (223)), some (zg_i (k)), some (zg_i ((m : Nat))), some (zg_i ((c : Nat)))] [] zk_K 242 (zk_P sh) (U1) := by
            intro c x hc hx1 hl hr
            have fin : ∀ (M : zg_V), M = zg_u U1 229 c ((x ||| 2 ^ m : Nat) : Int) → ∀ o3, zg_G Γ (fun _ => True) zm_Ref_turn (zg_rm 6 0 0) (zg_Ω Γ (Q) 0 0) 0 0 76 [some (zg_r Γ (223)), some (zg_i (k)), some (zg_i (((m : Nat) : Int) + 1)), o3] [] zk_K 242 (zk_P sh) (M) := by
              intro M hM o3
              have M1 : ∀ b, b ≠ 229 → M b = U1 b := fun b hb => by rw [hM, zg_u_out _ _ _ _ hb]
              have M2 : ∀ j, j ≠ c → M 229 j = U1 229 j := fun j hj => by rw [hM, zg_u_off _ _ _ _ hj]
              have M3 : M 229 c = ((x ||| 2 ^ m : Nat) : Int) := by rw [hM, zg_u_in]
              refine ih (m + 1) M o3 (by omega) (fun b hb => by rw [M1 b (by omega)]; exact wS b hb) (fun j hj => by rw [M1 223 (by decide)]; exact wf j hj) ?_ (by rw [M1 228 (by decide), w228]; exact u228) (by rw [M1 230 (by decide), w230]; exact u230) (by rw [M1 231 (by decide), w231]; exact u231) (fun j h1 h2 => by rw [M2 j (by omega), w229]; exact u229 j h1 h2) ?_ ?_
              · unfold zr_sc
                rw [M1 223 (by decide)]
                exact ws
              · rw [zs_mk_s]
                by_cases e : 2 * k = c
                · rw [e, M3, hl.1 e, if_pos rfl]
                  rw [w229, ← e, ul] at hx1
                  have : x = zs_mk (fun r => s.testBit r && zr_gl V n s f0 t0 L r) m := by omega
                  rw [this]
                · rw [M2 _ e, w229, ul, hl.2 e, if_neg (by decide)]
              · rw [zs_mk_s]
                by_cases e : 2 * k + 1 = c
                · rw [e, M3, hr.1 e, if_pos rfl]
                  rw [w229, ← e, ur] at hx1
                  have : x = zs_mk (fun r => s.testBit r && !zr_gl V n s f0 t0 L r) m := by omega
                  rw [this]
                · rw [M2 _ e, w229, ur, hr.2 e, if_neg (by decide)]
            refine zg_al0 zd_Ref_turn_131 ?_
            refine zg_getr zd_Ref_turn_132 zf_650 (by omega) (by first | assumption | rfl) rfl (by first | assumption | rfl) ?_
            refine zg_il3 zd_Ref_turn_135 ?_
            refine zg_dup2 zd_Ref_turn_136 rfl rfl ?_
            refine zg_iald (j := c) zd_Ref_turn_137 (by omega) rfl rfl (by omega) (by decide) ?_
            rw [hx1]
            refine zg_iconst zd_Ref_turn_138 ?_
            refine zg_il2 zd_Ref_turn_139 ?_
            refine zg_ishl ((2 ^ m : Nat) : Int) zd_Ref_turn_140 (zb_shl m (by omega)) ?_
            refine zg_ior ((x ||| 2 ^ m : Nat) : Int) zd_Ref_turn_141 (zb_or _ _) ?_
            refine zg_iast (j := c) zd_Ref_turn_142 (by omega) rfl rfl (by omega) (by decide) ?_
            refine zg_inc2 zd_Ref_turn_143 (fun w h => by cases h <;> rfl) (by decide) ?_
            refine zg_goto (tgt := 76) zd_Ref_turn_146 (by decide) ?_
            exact fin _ rfl _
          cases hg : zr_gl V n s f0 t0 L m with
          | true =>
            have w := wr (2 * k) _ (Or.inl rfl) (by rw [w229]; exact ul) ⟨fun _ => by rw [hbit, hg]; rfl, fun h => absurd rfl h⟩ ⟨fun h => by omega, fun _ => by rw [hg, hbit]; rfl⟩
            rw [show 2 * (k : Int) + zg_b (!true) = ((2 * k : Nat) : Int) by show 2 * (k : Int) + 0 = _; omega]
            refine zg_is3 zd_Ref_turn_130 (fun w h => by cases h <;> rfl) (by decide) ?_
            exact w
          | false =>
            have w := wr (2 * k + 1) _ (Or.inr rfl) (by rw [w229]; exact ur) ⟨fun h => by omega, fun _ => by rw [hg, hbit]; rfl⟩ ⟨fun _ => by rw [hbit, hg]; rfl, fun h => absurd rfl h⟩
            rw [show 2 * (k : Int) + zg_b (!false) = ((2 * k + 1 : Nat) : Int) by show 2 * (k : Int) + 1 = _; omega]
            refine zg_is3 zd_Ref_turn_130 (fun w h => by cases h <;> rfl) (by decide) ?_
            exact w
        refine zg_il2 zd_Ref_turn_76 ?_
        refine zg_al0 zd_Ref_turn_77 ?_
        refine zg_geti zd_Ref_turn_78 zf_641 (by omega) (by first | assumption | rfl) rfl ?_
        rw [hUn]
        refine zg_icmp_ge (tgt := 149) zd_Ref_turn_81 (by decide) (by omega) (by omega) (fun b81 => ?_) (fun b81 => ?_)
        · omega
        · refine zg_al0 zd_Ref_turn_84 ?_
          refine zg_getr zd_Ref_turn_85 zf_650 (by omega) (by first | assumption | rfl) rfl (by first | assumption | rfl) ?_
          refine zg_il1 zd_Ref_turn_88 ?_
          refine zg_iald zd_Ref_turn_89 (by omega) (by first | assumption | rfl) rfl (by omega) (by decide) ?_
          rw [us0]
          refine zg_il2 zd_Ref_turn_90 ?_
          refine zg_cSp2 zd_Ref_turn_91 zM_Ref_has zw_792 zi_Ref_has (cr_has hs (by omega)) (by decide) (by decide) (Nat.le_of_ble_eq_true rfl) ?_
          refine zg_if_eqB (tgt := 143) zd_Ref_turn_94 (by decide) (fun b94 => ?_) (fun b94 => ?_)
          · refine zg_inc2 zd_Ref_turn_143 (fun w h => by cases h <;> rfl) (by decide) ?_
            refine zg_goto (tgt := 76) zd_Ref_turn_146 (by decide) ?_
            exact skip b94 _
          · refine zg_al0 zd_Ref_turn_97 ?_
            refine zg_il1 zd_Ref_turn_98 ?_
            refine zg_al0 zd_Ref_turn_99 ?_
            refine zg_getr zd_Ref_turn_100 zf_642 (by omega) (by first | assumption | rfl) rfl (by first | assumption | rfl) ?_
            refine zg_iconst zd_Ref_turn_103 ?_
            refine zg_il2 zd_Ref_turn_104 ?_
            refine zg_imul zd_Ref_turn_105 ?_
            refine zg_iald (j := 3 * m) zd_Ref_turn_106 (by omega) rfl (by omega) (by omega) (by decide) ?_
            refine zg_al0 zd_Ref_turn_107 ?_
            refine zg_getr zd_Ref_turn_108 zf_642 (by omega) (by first | assumption | rfl) rfl (by first | assumption | rfl) ?_
            refine zg_iconst zd_Ref_turn_111 ?_
            refine zg_il2 zd_Ref_turn_112 ?_
            refine zg_imul zd_Ref_turn_113 ?_
            refine zg_iconst zd_Ref_turn_114 ?_
            refine zg_iadd zd_Ref_turn_115 ?_
            refine zg_iald (j := 3 * m + 1) zd_Ref_turn_116 (by omega) rfl (by omega) (by omega) (by decide) ?_
            refine zg_al0 zd_Ref_turn_117 ?_
            refine zg_getr zd_Ref_turn_118 zf_642 (by omega) (by first | assumption | rfl) rfl (by first | assumption | rfl) ?_
            refine zg_iconst zd_Ref_turn_121 ?_
            refine zg_il2 zd_Ref_turn_122 ?_
            refine zg_imul zd_Ref_turn_123 ?_
            refine zg_iconst zd_Ref_turn_124 ?_
            refine zg_iadd zd_Ref_turn_125 ?_
            refine zg_iald (j := 3 * m + 2) zd_Ref_turn_126 (by omega) rfl (by omega) (by omega) (by decide) ?_
            rw [hU224]
            refine zg_cVr4 zd_Ref_turn_127 zM_Ref_goes zw_824 zi_Ref_goes zs_Ref_goes (cr_goes hk.2 hs us0 uf0 hf3 ul0 ht0b hUs.2.1 hUs.2.2 hTU v0 v1 v2) (by decide) (by decide) (by omega) (by first | assumption | rfl) (by decide) rfl (Nat.le_of_ble_eq_true rfl) ?_
            intro r U1 hq
            obtain ⟨h1, h2⟩ := hq
            obtain rfl := h1 L (by rw [hτ]; exact hL)
            rw [hτ]
            exact here b94 U1 h2
    refine zg_al0 zd_Ref_turn_27 ?_
    refine zg_getr zd_Ref_turn_28 zf_649 (by omega) (by first | assumption | rfl) rfl (by first | assumption | rfl) ?_
    refine zg_il1 zd_Ref_turn_31 ?_
    refine zg_iconst zd_Ref_turn_32 ?_
    refine zg_iast zd_Ref_turn_33 (by omega) (by first | assumption | rfl) rfl (by omega) (by decide) ?_
    refine zg_al0 zd_Ref_turn_34 ?_
    refine zg_getr zd_Ref_turn_35 zf_651 (by omega) (by first | assumption | rfl) rfl (by first | assumption | rfl) ?_
    refine zg_il1 zd_Ref_turn_38 ?_
    refine zg_al0 zd_Ref_turn_39 ?_
    refine zg_geti zd_Ref_turn_40 zf_658 (by omega) (by first | assumption | rfl) rfl ?_
    rw [zg_u_out _ _ _ _ (show (223 : Nat) ≠ 228 by decide), h17]
    refine zg_iast zd_Ref_turn_43 (by omega) (by first | assumption | rfl) rfl (by omega) (by decide) ?_
    refine zg_al0 zd_Ref_turn_44 ?_
    refine zg_getr zd_Ref_turn_45 zf_652 (by omega) (by first | assumption | rfl) rfl (by first | assumption | rfl) ?_
    refine zg_il1 zd_Ref_turn_48 ?_
    refine zg_al0 zd_Ref_turn_49 ?_
    refine zg_geti zd_Ref_turn_50 zf_659 (by omega) (by first | assumption | rfl) rfl ?_
    rw [zg_u_out _ _ _ _ (show (223 : Nat) ≠ 230 by decide), zg_u_out _ _ _ _ (show (223 : Nat) ≠ 228 by decide), ht0]
    refine zg_iast zd_Ref_turn_53 (by omega) (by first | assumption | rfl) rfl (by omega) (by decide) ?_
    refine zg_al0 zd_Ref_turn_54 ?_
    refine zg_getr zd_Ref_turn_55 zf_649 (by omega) (by first | assumption | rfl) rfl (by first | assumption | rfl) ?_
    refine zg_iconst zd_Ref_turn_58 ?_
    refine zg_il1 zd_Ref_turn_59 ?_
    refine zg_imul zd_Ref_turn_60 ?_
    refine zg_iconst zd_Ref_turn_61 ?_
    refine zg_iast (j := 2 * k) zd_Ref_turn_62 (by omega) rfl (by omega) (by omega) (by decide) ?_
    refine zg_al0 zd_Ref_turn_63 ?_
    refine zg_getr zd_Ref_turn_64 zf_649 (by omega) (by first | assumption | rfl) rfl (by first | assumption | rfl) ?_
    refine zg_iconst zd_Ref_turn_67 ?_
    refine zg_il1 zd_Ref_turn_68 ?_
    refine zg_imul zd_Ref_turn_69 ?_
    refine zg_iconst zd_Ref_turn_70 ?_
    refine zg_iadd zd_Ref_turn_71 ?_
    refine zg_iconst zd_Ref_turn_72 ?_
    refine zg_iast (j := 2 * k + 1) zd_Ref_turn_73 (by omega) rfl (by omega) (by omega) (by decide) ?_
    refine zg_iconst zd_Ref_turn_74 ?_
    refine zg_is2 zd_Ref_turn_75 (fun w h => by cases h <;> rfl) (by decide) ?_
    refine loop n 0 _ _ (by omega) ?_ ?_ ?_ ?_ ?_ ?_ ?_ ?_ ?_
    · intro b hb
      rw [zg_u_out _ _ _ _ (by omega), zg_u_out _ _ _ _ (by omega), zg_u_out _ _ _ _ (by omega), zg_u_out _ _ _ _ (by omega), zg_u_out _ _ _ _ (by omega)]
      exact hU0 b (by omega)
    · intro j hj
      rw [zg_u_out _ _ _ _ (by decide), zg_u_out _ _ _ _ (by decide), zg_u_out _ _ _ _ (by decide), zg_u_out _ _ _ _ (by decide), zg_u_out _ _ _ _ (by decide)]
      exact hU0f j hj
    · unfold zr_sc
      rw [zg_u_out _ _ _ _ (by decide), zg_u_out _ _ _ _ (by decide), zg_u_out _ _ _ _ (by decide), zg_u_out _ _ _ _ (by decide), zg_u_out _ _ _ _ (by decide)]
      exact hU0s
    · funext j
      have h8 := hU0 228 (by decide)
      simp [zg_u, h8]
    · funext j
      have h8 := hU0 230 (by decide)
      simp [zg_u, h8]
    · funext j
      have h8 := hU0 231 (by decide)
      simp [zg_u, h8]
    · intro j _ _
      rw [zg_u_out _ _ _ _ (by decide), zg_u_out _ _ _ _ (by decide), zg_u_out _ _ _ _ (by decide), zg_u_out _ _ _ _ (by decide), zg_u_out _ _ _ _ (by decide), hU0 229 (by decide)]
    · rw [zg_u_out _ _ _ _ (by decide), zg_u_out _ _ _ _ (by decide), zg_u_out _ _ _ _ (by decide), zg_u_out _ _ _ _ (by decide), zg_u_out _ _ _ _ (by decide), hU0 229 (by decide)]
      exact z1
    · rw [zg_u_out _ _ _ _ (by decide), zg_u_out _ _ _ _ (by decide), zg_u_out _ _ _ _ (by decide), zg_u_out _ _ _ _ (by decide), zg_u_out _ _ _ _ (by decide), hU0 229 (by decide)]
      exact z2
  refine zg_il1 zd_Ref_turn_0 ?_
  refine zg_cSp1 zd_Ref_turn_1 zM_Ref_depthOf zw_781 zi_Ref_depthOf (cr_depth (by omega)) (by decide) (by decide) (Nat.le_of_ble_eq_true rfl) ?_
  refine zg_al0 zd_Ref_turn_4 ?_
  refine zg_geti zd_Ref_turn_5 zf_647 (by omega) (by first | assumption | rfl) rfl ?_
  rw [hlim]
  refine zg_icmp_eq (tgt := 19) zd_Ref_turn_8 (by decide) (by omega) (by omega) (fun b8 => ?_) (fun b8 => ?_)
  · first
    | exact leaf V (fun b _ => rfl) (fun j _ => rfl) hsc (Or.inl b8)
    | (refine leaf U0 q1 hU0f hU0s (Or.inr ?_)
       have hF : ¬ 0 ≤ U0 223 17 := of_decide_eq_false b16
       rcases zr_bs_best q4 with ⟨-, h⟩ | ⟨f0, h1, -⟩
       · exact h
       · omega)
  · refine zg_al0 zd_Ref_turn_11 ?_
    refine zg_il1 zd_Ref_turn_12 ?_
    refine zg_cVr1 zd_Ref_turn_13 zM_Ref_seek zw_784 zi_Ref_seek zs_Ref_seek (cr_seek hk.2 hs hs0 hcr hcrb hlf hlfb hsc.1 hT) (by decide) (by decide) (by omega) (by first | assumption | rfl) (by decide) rfl (Nat.le_of_ble_eq_true rfl) ?_
    intro r U0 hq
    obtain ⟨rfl, q1, q2, q3, T0, B0, q4⟩ := hq
    have hU0f : zr_ff V U0 := fun j hj => q2 j (by omega)
    have hU0s : zr_sc U0 := ⟨q3, by rw [q2 24 (by omega)]; exact hsc.2.1, by rw [q2 25 (by omega)]; exact hsc.2.2⟩
    refine zg_if_neB (tgt := 27) zd_Ref_turn_16 (by decide) (fun b16 => ?_) (fun b16 => ?_)
    · have hF : 0 ≤ U0 223 17 := of_decide_eq_true b16
      rcases zr_bs_best q4 with ⟨h, -⟩ | ⟨f0, h1, h2⟩
      · omega
      · exact split U0 f0 q1 hU0f hU0s b8 h1 h2
    · first
      | exact leaf V (fun b _ => rfl) (fun j _ => rfl) hsc (Or.inl b8)
      | (refine leaf U0 q1 hU0f hU0s (Or.inr ?_)
         have hF : ¬ 0 ≤ U0 223 17 := of_decide_eq_false b16
         rcases zr_bs_best q4 with ⟨-, h⟩ | ⟨f0, h1, -⟩
         · exact h
         · omega)
end ZT26

