/-! the reference: one stand-in -/
def zr_ys (ag : Int → Bool → Int) (C : Int → Bool → Prop) (W : zg_V) : Prop :=
  (W 223 26 = -1 ∧ ∀ t u, ¬ C t u) ∨ ∃ (t0 : Int) (u0 : Bool), C t0 u0 ∧ W 223 24 = t0 ∧ W 223 25 = zg_b u0 ∧ W 223 26 = ag t0 u0 ∧ ∀ t u, C t u → ag t u ≤ ag t0 u0 ∧ (ag t u = ag t0 u0 → t0 < t ∨ (t0 = t ∧ (u0 = false ∨ u = true)))
theorem zr_ys_iff {ag : Int → Bool → Int} {C C' : Int → Bool → Prop} {W : zg_V} (h : ∀ t u, C t u ↔ C' t u) (hb : zr_ys ag C W) : zr_ys ag C' W := by
  have e : C = C' := funext fun t => funext fun u => propext (h t u)
  rw [← e]; exact hb
theorem zr_co_at (V : zg_V) (x y z : Int) : zr_co V x y z 223 24 = x ∧ zr_co V x y z 223 25 = y ∧ zr_co V x y z 223 26 = z := by
  simp [zr_co, zg_u]
theorem zr_co_o (V : zg_V) (x y z : Int) {b : Nat} (h : b ≠ 223) : zr_co V x y z b = V b := by
  unfold zr_co
  rw [zg_u_out _ _ _ _ h, zg_u_out _ _ _ _ h, zg_u_out _ _ _ _ h]
theorem zr_co_f (V : zg_V) (x y z : Int) {j : Nat} (h : j < 24 ∨ 26 < j) : zr_co V x y z 223 j = V 223 j := by
  unfold zr_co
  rw [zg_u_off _ _ _ _ (by omega), zg_u_off _ _ _ _ (by omega), zg_u_off _ _ _ _ (by omega)]
def zr_yi (V U : zg_V) : Prop := zv_on (fun b => b = 223) V U ∧ (∀ j, j < 24 ∨ 26 < j → U 223 j = V 223 j) ∧ (-2147483648 ≤ U 223 24 ∧ U 223 24 < 2147483648) ∧ (0 ≤ U 223 25 ∧ U 223 25 ≤ 1) ∧ (-1 ≤ U 223 26 ∧ U 223 26 ≤ 16)
theorem zr_yi_co {V U : zg_V} {c : Prop} [Decidable c] {t u a : Int} (h : zr_yi V U) (ht : -2147483648 ≤ t ∧ t < 2147483648) (hu : 0 ≤ u ∧ u ≤ 1) (ha : -1 ≤ a ∧ a ≤ 16) : zr_yi V (if c then zr_co U t u a else U) := by
  split
  · obtain ⟨e1, e2, e3⟩ := zr_co_at U t u a
    refine ⟨fun b hb => by rw [zr_co_o _ _ _ _ hb]; exact h.1 b hb, fun j hj => by rw [zr_co_f _ _ _ _ hj]; exact h.2.1 j hj, ?_, ?_, ?_⟩
    · rw [e1]; exact ht
    · rw [e2]; exact hu
    · rw [e3]; exact ha
  · exact h
theorem zg_b_c (u : Bool) : (u = false ∧ zg_b u = 0) ∨ (u = true ∧ zg_b u = 1) := by cases u <;> simp [zg_b]
theorem zr_ys_step {ag : Int → Bool → Int} {C C' : Int → Bool → Prop} {W : zg_V} {t z : Int} {u : Bool} (hb : zr_ys ag C W) (hC : ∀ t' u', C' t' u' ↔ C t' u' ∨ (t' = t ∧ u' = u)) (h0 : 0 ≤ ag t u) (hz : z = zg_b u) : zr_ys ag C' (if W 223 26 < ag t u ∨ (ag t u = W 223 26 ∧ (t < W 223 24 ∨ (t = W 223 24 ∧ z < W 223 25))) then zr_co W t z (ag t u) else W) := by
  obtain ⟨e1, e2, e3⟩ := zr_co_at W t z (ag t u)
  have self : ∀ t' u', (t' = t ∧ u' = u) → ag t' u' ≤ ag t u ∧ (ag t' u' = ag t u → t < t' ∨ (t = t' ∧ (u = false ∨ u' = true))) := by
    rintro t' u' ⟨rfl, rfl⟩
    refine ⟨Int.le_refl _, fun _ => Or.inr ⟨rfl, ?_⟩⟩
    cases u' <;> simp
  have new : (∀ t' u', C t' u' → ag t' u' ≤ ag t u ∧ (ag t' u' = ag t u → t < t' ∨ (t = t' ∧ (u = false ∨ u' = true)))) → zr_ys ag C' (zr_co W t z (ag t u)) := fun h => by
    refine Or.inr ⟨t, u, (hC t u).mpr (Or.inr ⟨rfl, rfl⟩), e1, by rw [e2, hz], e3, fun t' u' h' => ?_⟩
    rcases (hC t' u').mp h' with q | q
    · exact h t' u' q
    · exact self t' u' q
  rcases hb with ⟨h1, h2⟩ | ⟨t0, u0, g1, g2, g3, g4, g5⟩
  · rw [if_pos (Or.inl (by omega))]
    exact new (fun t' u' h => absurd h (h2 t' u'))
  · have hu := zg_b_c u
    have hu0 := zg_b_c u0
    rw [g2, g3, g4, hz]
    split
    · rename_i hc
      rw [← hz]
      refine new (fun t' u' h => ?_)
      have h5 := g5 t' u' h
      refine ⟨by omega, fun q => ?_⟩
      have h6 := h5.2 (by omega)
      rcases hu with ⟨a1, a2⟩ | ⟨a1, a2⟩ <;> rcases hu0 with ⟨c1, c2⟩ | ⟨c1, c2⟩ <;> subst a1 c1 <;> simp only [a2, c2] at hc <;> simp at h6 ⊢ <;> omega
    · rename_i hc
      refine Or.inr ⟨t0, u0, (hC t0 u0).mpr (Or.inl g1), g2, g3, g4, fun t' u' h => ?_⟩
      rcases (hC t' u').mp h with h | ⟨rfl, rfl⟩
      · exact g5 t' u' h
      · refine ⟨by omega, fun q => ?_⟩
        rcases hu with ⟨a1, a2⟩ | ⟨a1, a2⟩ <;> rcases hu0 with ⟨c1, c2⟩ | ⟨c1, c2⟩ <;> subst a1 c1 <;> simp only [a2, c2] at hc <;> simp <;> omega
def zr_Dm (va : Nat → Nat → Int) (n p g m : Nat) : Int → Prop := fun t' => ∃ m', m' < m ∧ m' / 16 < n ∧ m' % 16 < n ∧ zr_nx va p g (m' / 16) (m' % 16) n = true ∧ t' = (va (m' / 16) g + va (m' % 16) g) / 2
theorem zr_Dm_z {τ : zx_τ} (hn : τ.2.2.2 ≤ 16) (p g : Nat) (t' : Int) : zr_Dm τ.1 τ.2.2.2 p g 256 t' ↔ zx_cut τ p g t' := by
  rw [zr_cut_iff]
  unfold zr_Dm
  constructor
  · rintro ⟨m', -, q2, q3, q4, q5⟩
    exact ⟨_, _, q2, q3, q4, q5⟩
  · rintro ⟨i, j, i1, j1, h1, h2⟩
    refine ⟨16 * i + j, by omega, ?_⟩
    rw [show (16 * i + j) / 16 = i by omega, show (16 * i + j) % 16 = j by omega]
    exact ⟨i1, j1, h1, h2⟩
theorem zr_Dm_no {va : Nat → Nat → Int} {n p g m : Nat} (h : ¬ (m / 16 < n ∧ m % 16 < n ∧ zr_nx va p g (m / 16) (m % 16) n = true)) (t' : Int) : zr_Dm va n p g m t' ↔ zr_Dm va n p g (m + 1) t' := by
  unfold zr_Dm
  constructor
  · rintro ⟨m', q, r⟩; exact ⟨m', by omega, r⟩
  · rintro ⟨m', q, q1, q2, q3, q4⟩
    refine ⟨m', ?_, q1, q2, q3, q4⟩
    by_cases e : m' = m
    · subst e; exact absurd ⟨q1, q2, q3⟩ h
    · omega
theorem zr_Dm_yes {va : Nat → Nat → Int} {n p g m : Nat} {t : Int} (ht : (va (m / 16) g + va (m % 16) g) / 2 = t) (h1 : m / 16 < n) (h2 : m % 16 < n) (h3 : zr_nx va p g (m / 16) (m % 16) n = true) (t' : Int) : zr_Dm va n p g (m + 1) t' ↔ zr_Dm va n p g m t' ∨ t' = t := by
  unfold zr_Dm
  constructor
  · rintro ⟨m', q, q1, q2, q3, q4⟩
    by_cases e : m' = m
    · subst e; exact Or.inr (by rw [q4, ht])
    · exact Or.inl ⟨m', by omega, q1, q2, q3, q4⟩
  · rintro (⟨m', q, r⟩ | q)
    · exact ⟨m', by omega, r⟩
    · exact ⟨m, by omega, h1, h2, h3, by rw [q, ht]⟩
theorem zr_agset {bo le sl : Nat} (h1 : ∀ r, le.testBit r = true → bo.testBit r = true) (h2 : ∀ r, sl.testBit r = true → bo.testBit r = true) : (sl &&& le) ||| zb_df (zb_df bo le) sl = zb_df bo (le ^^^ sl) := by
  apply Nat.eq_of_testBit_eq
  intro r
  rw [Nat.testBit_or, Nat.testBit_and, zb_df_bit, zb_df_bit, zb_df_bit, Nat.testBit_xor]
  have a := h1 r
  have b := h2 r
  revert a b
  generalize bo.testBit r = x
  generalize le.testBit r = y
  generalize sl.testBit r = z
  cases x <;> cases y <;> cases z <;> simp
section ZT23
variable {Γ : zg_C} {V : zg_V} {sh : Nat}
theorem cr_standIn {k s n f0 g : Nat} {l0 : Int} (hk : k < 32) (hs : s < 65536) (hs0 : V 229 k = (s : Int)) (hf0 : V 230 k = (f0 : Int)) (hf03 : f0 < 3) (hl0 : V 231 k = l0) (hl0b : -2147483648 ≤ l0 ∧ l0 < 2147483648) (hg : g < 3) (h24 : -2147483648 ≤ V 223 24 ∧ V 223 24 < 2147483648) (h25 : 0 ≤ V 223 25 ∧ V 223 25 ≤ 1) (hT : zr_T V n) : zg_S Γ zm_Ref_standIn 2 0 0 [zg_r Γ 223, zg_i k, zg_i g] zk_K 242 (zk_P sh) V (zq_r zk_K 242 (zk_P sh) (fun rr V' => rr = some (zg_i (zg_b (decide (zy_fl (zr_τ V n) s f0 l0 g < V' 223 26)))) ∧ zr_yi V V' ∧ zr_ys (zy_ag (zr_τ V n) s f0 l0 g) (fun t _ => zx_cut (zr_τ V n) (zy_bo (zr_τ V n) s f0 g) g t) V')) := by
  have hn16 := hT.2.1
  have p0 : zt_pres (zr_va V) s f0 n < 65536 := zt_mk16 hn16
  have p1 : zy_bo (zr_τ V n) s f0 g < 65536 := zt_mk16 hn16
  have p2 : zy_le (zr_τ V n) s f0 l0 g < 65536 := zt_mk16 hn16
  have hbo : zt_pres (zr_va V) (zt_pres (zr_va V) s f0 n) g n = zy_bo (zr_τ V n) s f0 g := rfl
  have hle : zt_upto (zr_va V) (zy_bo (zr_τ V n) s f0 g) f0 l0 n = zy_le (zr_τ V n) s f0 l0 g := rfl
  have hal : zt_w (V 226) (zy_bo (zr_τ V n) s f0 g) n = zy_al (zr_τ V n) s f0 g := rfl
  have hlw : zt_w (V 226) (zy_le (zr_τ V n) s f0 l0 g) n = zy_lw (zr_τ V n) s f0 l0 g := rfl
  have hlesub : ∀ r, (zy_le (zr_τ V n) s f0 l0 g).testBit r = true → (zy_bo (zr_τ V n) s f0 g).testBit r = true := fun r h => zr_upto_sub r h
  have hrw : zt_w (V 226) (zb_df (zy_bo (zr_τ V n) s f0 g) (zy_le (zr_τ V n) s f0 l0 g)) n = zy_al (zr_τ V n) s f0 g - zy_lw (zr_τ V n) s f0 l0 g := by
    have := zt_w_df (w := V 226) (n := n) (fun r _ h => hlesub r h)
    rw [hlw, hal] at this
    omega
  have hAdef : ∀ t, zy_A (zr_τ V n) s f0 l0 g t = zt_w (V 226) (zb_df (zy_bo (zr_τ V n) s f0 g) (zy_le (zr_τ V n) s f0 l0 g ^^^ zx_sl (zr_τ V n) (zy_bo (zr_τ V n) s f0 g) g t)) n := fun t => rfl
  have halb : 0 ≤ zy_al (zr_τ V n) s f0 g ∧ zy_al (zr_τ V n) s f0 g ≤ 16 := zr_w_16 hT _
  have hlwb : 0 ≤ zy_lw (zr_τ V n) s f0 l0 g ∧ zy_lw (zr_τ V n) s f0 l0 g ≤ 16 := zr_w_16 hT _
  have hrwb : 0 ≤ zt_w (V 226) (zb_df (zy_bo (zr_τ V n) s f0 g) (zy_le (zr_τ V n) s f0 l0 g)) n ∧ zt_w (V 226) (zb_df (zy_bo (zr_τ V n) s f0 g) (zy_le (zr_τ V n) s f0 l0 g)) n ≤ 16 := zr_w_16 hT _
  have hAb : ∀ t, 0 ≤ zy_A (zr_τ V n) s f0 l0 g t ∧ zy_A (zr_τ V n) s f0 l0 g t ≤ zy_al (zr_τ V n) s f0 g := fun t => by
    refine ⟨(zr_w_16 hT _).1, ?_⟩
    rw [hAdef, ← hal]
    unfold zt_w
    apply zs_sum_le
    intro r hr
    have h5 := hT.2.2.2.2.1 r (by omega)
    rw [zb_df_bit]
    cases (zy_bo (zr_τ V n) s f0 g).testBit r <;> simp
    split <;> omega
  have hfl : zy_fl (zr_τ V n) s f0 l0 g = if zy_lw (zr_τ V n) s f0 l0 g < zy_al (zr_τ V n) s f0 g - zy_lw (zr_τ V n) s f0 l0 g then zy_al (zr_τ V n) s f0 g - zy_lw (zr_τ V n) s f0 l0 g else zy_lw (zr_τ V n) s f0 l0 g := rfl
  generalize hboe : zy_bo (zr_τ V n) s f0 g = bo at *
  generalize hlee : zy_le (zr_τ V n) s f0 l0 g = le at *
  generalize hale : zy_al (zr_τ V n) s f0 g = al at *
  generalize hlwe : zy_lw (zr_τ V n) s f0 l0 g = lw at *
  generalize hfle : zy_fl (zr_τ V n) s f0 l0 g = fl at *
  have hag0 : ∀ t, zy_ag (zr_τ V n) s f0 l0 g t false = zy_A (zr_τ V n) s f0 l0 g t := fun t => by unfold zy_ag; rw [if_neg (by decide)]
  have hag1 : ∀ t, zy_ag (zr_τ V n) s f0 l0 g t true = al - zy_A (zr_τ V n) s f0 l0 g t := fun t => by unfold zy_ag; rw [if_pos rfl, hale]
  have hri16 : zb_df bo le < 65536 := zr_df16 p1 _
  generalize hQ : zq_r zk_K 242 (zk_P sh) (fun rr V' => rr = some (zg_i (zg_b (decide (fl < V' 223 26)))) ∧ zr_yi V V' ∧ zr_ys (zy_ag (zr_τ V n) s f0 l0 g) (fun t _ => zx_cut (zr_τ V n) bo g t) V') = Q
  refine zg_enter 12 (by decide) (Nat.le_of_ble_eq_true rfl) rfl ?_
  have loop : ∀ (j' m : Nat) (U : zg_V) (o9 o10 o11 o12 o13 o14 : Option Value) (hij : m + j' = 256) (hU : zr_yi V U) (hys : zr_ys (zy_ag (zr_τ V n) s f0 l0 g) (fun t _ => zr_Dm (zr_va V) n bo g m t) U), zg_G Γ (fun _ => True) zm_Ref_standIn (zg_rm 2 0 0) (zg_Ω Γ (Q) 0 0) 0 0 61 [some (zg_r Γ (223)), some (zg_i (k)), some (zg_i (g)), some (zg_i (f0)), some (zg_i ((zt_pres (zr_va V) s f0 n : Nat))), some (zg_i (bo)), some (zg_i (le)), some (zg_i ((zb_df bo le : Nat))), some (zg_i ((m : Nat))), o9, o10, o11, o12, o13, o14] [] zk_K 242 (zk_P sh) (U) := by
    intro j'
    induction j' with
    | zero =>
      intro m U o9 o10 o11 o12 o13 o14 hij hU hys
      have e : m = 256 := by omega
      subst e
      have hTU : zr_T U n := zr_T_fr (fun b hb _ => hU.1 b hb) (hU.2.1 0 (by omega)) hT
      have hU6 : U 226 = V 226 := hU.1 226 (by decide)
      have h26 := hU.2.2.2.2
      have hys2 := zr_ys_iff (fun t _ => zr_Dm_z (τ := zr_τ V n) hn16 bo g t) hys
      have hfl2 : (lw < U 223 26 ∧ al - lw < U 223 26) ↔ fl < U 223 26 := by
        rw [hfl]
        split <;> omega
      refine zg_il8 zd_Ref_standIn_61 ?_
      refine zg_sipush zd_Ref_standIn_63 (by decide) ?_
      refine zg_icmp_ge (tgt := 195) zd_Ref_standIn_66 (by decide) (by omega) (by omega) (fun b66 => ?_) (fun b66 => ?_)
      · refine zg_al0 zd_Ref_standIn_195 ?_
        refine zg_geti zd_Ref_standIn_196 zf_667 (by omega) (by first | assumption | rfl) rfl ?_
        refine zg_al0 zd_Ref_standIn_199 ?_
        refine zg_il6 zd_Ref_standIn_200 ?_
        refine zg_iconst zd_Ref_standIn_202 ?_
        refine zg_cVp2 zd_Ref_standIn_203 zM_Ref_weigh zw_808 zi_Ref_weigh zs_Ref_weigh (cr_weighA p2 hTU) (by decide) (by decide) (by omega) (by first | assumption | rfl) (by decide) rfl (Nat.le_of_ble_eq_true rfl) ?_
        rw [hU6, hlw]
        refine zg_icmp_le (tgt := 227) zd_Ref_standIn_206 (by decide) (by omega) (by omega) (fun b206 => ?_) (fun b206 => ?_)
        · refine zg_iconst zd_Ref_standIn_227 ?_
          refine zg_zreturn zd_Ref_standIn_228 rfl (by omega) ?_
          subst hQ
          first
            | exact ⟨rfl, rfl, rfl, by rw [decide_eq_true (hfl2.mp ⟨by omega, by omega⟩)]; rfl, hU, hys2⟩
            | exact ⟨rfl, rfl, rfl, by rw [decide_eq_false (fun h => by have := hfl2.mpr h; omega)]; rfl, hU, hys2⟩
        · refine zg_al0 zd_Ref_standIn_209 ?_
          refine zg_geti zd_Ref_standIn_210 zf_667 (by omega) (by first | assumption | rfl) rfl ?_
          refine zg_al0 zd_Ref_standIn_213 ?_
          refine zg_il7 zd_Ref_standIn_214 ?_
          refine zg_iconst zd_Ref_standIn_216 ?_
          refine zg_cVp2 zd_Ref_standIn_217 zM_Ref_weigh zw_808 zi_Ref_weigh zs_Ref_weigh (cr_weighA hri16 hTU) (by decide) (by decide) (by omega) (by first | assumption | rfl) (by decide) rfl (Nat.le_of_ble_eq_true rfl) ?_
          rw [hU6, hrw]
          refine zg_icmp_le (tgt := 227) zd_Ref_standIn_220 (by decide) (by omega) (by omega) (fun b220 => ?_) (fun b220 => ?_)
          · refine zg_iconst zd_Ref_standIn_227 ?_
            refine zg_zreturn zd_Ref_standIn_228 rfl (by omega) ?_
            subst hQ
            first
              | exact ⟨rfl, rfl, rfl, by rw [decide_eq_true (hfl2.mp ⟨by omega, by omega⟩)]; rfl, hU, hys2⟩
              | exact ⟨rfl, rfl, rfl, by rw [decide_eq_false (fun h => by have := hfl2.mpr h; omega)]; rfl, hU, hys2⟩
          · refine zg_iconst zd_Ref_standIn_223 ?_
            refine zg_goto (tgt := 228) zd_Ref_standIn_224 (by decide) ?_
            refine zg_zreturn zd_Ref_standIn_228 rfl (by omega) ?_
            subst hQ
            first
              | exact ⟨rfl, rfl, rfl, by rw [decide_eq_true (hfl2.mp ⟨by omega, by omega⟩)]; rfl, hU, hys2⟩
              | exact ⟨rfl, rfl, rfl, by rw [decide_eq_false (fun h => by have := hfl2.mpr h; omega)]; rfl, hU, hys2⟩
      · omega
    | succ j' ihi =>
      intro m U o9 o10 o11 o12 o13 o14 hij hU hys
      have hTU : zr_T U n := zr_T_fr (fun b hb _ => hU.1 b hb) (hU.2.1 0 (by omega)) hT
      have hUn : U 223 0 = (n : Int) := hTU.1
      have hUva : zr_va U = zr_va V := by unfold zr_va; rw [hU.1 224 (by decide)]
      have hU6 : U 226 = V 226 := hU.1 226 (by decide)
      have e72 : Int32.ofInt ((m : Nat) : Int) >>> (Int32.ofInt 4 &&& 31) = Int32.ofInt ((m / 16 : Nat) : Int) := by
        have := zb_shr (s := m) (r := 4) (by omega) (by decide)
        rw [Nat.shiftRight_eq_div_pow] at this
        exact this
      have e79 : Int32.ofInt ((m : Nat) : Int) &&& Int32.ofInt 15 = Int32.ofInt ((m % 16 : Nat) : Int) := by
        have := zb_and m 15
        rw [show m &&& 15 = m % 16 from Nat.and_two_pow_sub_one_eq_mod m 4] at this
        exact this
      have hi16 : m / 16 < 16 := by omega
      have hj16 : m % 16 < 16 := by omega
      have hvi := hT.2.2.1 (m / 16) g hi16 hg
      have hvj := hT.2.2.1 (m % 16) g hj16 hg
      generalize ht : (zr_va V (m / 16) g + zr_va V (m % 16) g) / 2 = t
      have htb : -2147483648 ≤ t ∧ t < 2147483648 := by
        have : (V 224 (3 * (m / 16) + g) + V 224 (3 * (m % 16) + g)) / 2 = t := ht
        omega
      have hskip : ¬ (m / 16 < n ∧ m % 16 < n ∧ zr_nx (zr_va V) bo g (m / 16) (m % 16) n = true) → ∀ (o9 o10 o11 o12 o13 o14 : Option Value), zg_G Γ (fun _ => True) zm_Ref_standIn (zg_rm 2 0 0) (zg_Ω Γ (Q) 0 0) 0 0 61 [some (zg_r Γ (223)), some (zg_i (k)), some (zg_i (g)), some (zg_i (f0)), some (zg_i ((zt_pres (zr_va V) s f0 n : Nat))), some (zg_i (bo)), some (zg_i (le)), some (zg_i ((zb_df bo le : Nat))), some (zg_i (((m : Nat) : Int) + 1)), o9, o10, o11, o12, o13, o14] [] zk_K 242 (zk_P sh) (U) := fun h o9 o10 o11 o12 o13 o14 => ihi (m + 1) U o9 o10 o11 o12 o13 o14 (by omega) hU (zr_ys_iff (fun t' _ => zr_Dm_no h t') hys)
      generalize hsl : zx_sl (zr_τ V n) bo g t = sl
      have hsl16 : sl < 65536 := by rw [← hsl]; exact zt_mk16 hn16
      have hslsub : ∀ r, sl.testBit r = true → bo.testBit r = true := fun r h => by rw [← hsl] at h; exact zr_upto_sub r h
      have hset := zr_agset hlesub hslsub
      have hAt : zt_w (V 226) (zb_df bo (le ^^^ sl)) n = zy_A (zr_τ V n) s f0 l0 g t := by rw [hAdef, hsl]
      have hAtb := hAb t
      have hset16 : zb_df bo (le ^^^ sl) < 65536 := zr_df16 p1 _
      have rest : m / 16 < n → m % 16 < n → zr_nx (zr_va V) bo g (m / 16) (m % 16) n = true → zg_G Γ (fun _ => True) zm_Ref_standIn (zg_rm 2 0 0) (zg_Ω Γ (Q) 0 0) 0 0 171 [some (zg_r Γ (223)), some (zg_i (k)), some (zg_i (g)), some (zg_i (f0)), some (zg_i ((zt_pres (zr_va V) s f0 n : Nat))), some (zg_i (bo)), some (zg_i (le)), some (zg_i ((zb_df bo le : Nat))), some (zg_i ((m : Nat))), some (zg_i ((m / 16 : Nat))), some (zg_i ((m % 16 : Nat))), some (zg_i (t)), some (zg_i (sl)), some (zg_i (zy_ag (zr_τ V n) s f0 l0 g t false)), some (zg_i (zy_ag (zr_τ V n) s f0 l0 g t true))] [] zk_K 242 (zk_P sh) (U) := by
        intro h1 h2 h3
        have c1 : 0 ≤ zy_ag (zr_τ V n) s f0 l0 g t false ∧ zy_ag (zr_τ V n) s f0 l0 g t false ≤ 16 := by rw [hag0]; omega
        have c2 : 0 ≤ zy_ag (zr_τ V n) s f0 l0 g t true ∧ zy_ag (zr_τ V n) s f0 l0 g t true ≤ 16 := by rw [hag1]; omega
        have rest2 : ∀ U1 : zg_V, zr_yi V U1 → zr_ys (zy_ag (zr_τ V n) s f0 l0 g) (fun t' u' => zr_Dm (zr_va V) n bo g m t' ∨ (t' = t ∧ u' = false)) U1 → zg_G Γ (fun _ => True) zm_Ref_standIn (zg_rm 2 0 0) (zg_Ω Γ (Q) 0 0) 0 0 180 [some (zg_r Γ (223)), some (zg_i (k)), some (zg_i (g)), some (zg_i (f0)), some (zg_i ((zt_pres (zr_va V) s f0 n : Nat))), some (zg_i (bo)), some (zg_i (le)), some (zg_i ((zb_df bo le : Nat))), some (zg_i ((m : Nat))), some (zg_i ((m / 16 : Nat))), some (zg_i ((m % 16 : Nat))), some (zg_i (t)), some (zg_i (sl)), some (zg_i (zy_ag (zr_τ V n) s f0 l0 g t false)), some (zg_i (zy_ag (zr_τ V n) s f0 l0 g t true))] [] zk_K 242 (zk_P sh) (U1) := by
          intro U1 hU1 hy1
          have b24 := hU1.2.2.1
          have b25 := hU1.2.2.2.1
          have b26 := hU1.2.2.2.2
          have st := zr_ys_step (C' := fun t' _ => zr_Dm (zr_va V) n bo g (m + 1) t') (z := 1) (u := true) hy1 (fun t' u' => by
            rw [zr_Dm_yes ht h1 h2 h3]
            cases u' <;> simp) c2.1 rfl
          refine zg_al0 zd_Ref_standIn_180 ?_
          refine zg_il11 zd_Ref_standIn_181 ?_
          refine zg_iconst zd_Ref_standIn_183 ?_
          refine zg_il14 zd_Ref_standIn_184 ?_
          refine zg_cVq3 zd_Ref_standIn_186 zM_Ref_consider zw_836 zi_Ref_consider zs_Ref_consider (cr_consider htb (by omega) (by omega) (by omega) b24 b25) (by decide) (by decide) (by omega) (by first | assumption | rfl) (by decide) rfl (Nat.le_of_ble_eq_true rfl) ?_
          refine zg_inc8 zd_Ref_standIn_189 (fun w h => by cases h <;> rfl) (by decide) ?_
          refine zg_goto (tgt := 61) zd_Ref_standIn_192 (by decide) ?_
          exact ihi (m + 1) _ _ _ _ _ _ _ (by omega) (zr_yi_co hU1 htb (by omega) (by omega)) st
        have b24 := hU.2.2.1
        have b25 := hU.2.2.2.1
        have b26 := hU.2.2.2.2
        refine zg_al0 zd_Ref_standIn_171 ?_
        refine zg_il11 zd_Ref_standIn_172 ?_
        refine zg_iconst zd_Ref_standIn_174 ?_
        refine zg_il13 zd_Ref_standIn_175 ?_
        refine zg_cVq3 zd_Ref_standIn_177 zM_Ref_consider zw_836 zi_Ref_consider zs_Ref_consider (cr_consider htb (by omega) (by omega) (by omega) b24 b25) (by decide) (by decide) (by omega) (by first | assumption | rfl) (by decide) rfl (Nat.le_of_ble_eq_true rfl) ?_
        exact rest2 _ (zr_yi_co hU htb (by omega) (by omega)) (zr_ys_step hys (fun t' u' => Iff.rfl) c1.1 rfl)
      rw [hag0, hag1] at rest
      refine zg_il8 zd_Ref_standIn_61 ?_
      refine zg_sipush zd_Ref_standIn_63 (by decide) ?_
      refine zg_icmp_ge (tgt := 195) zd_Ref_standIn_66 (by decide) (by omega) (by omega) (fun b66 => ?_) (fun b66 => ?_)
      · omega
      · refine zg_il8 zd_Ref_standIn_69 ?_
        refine zg_iconst zd_Ref_standIn_71 ?_
        refine zg_ishr ((m / 16 : Nat) : Int) zd_Ref_standIn_72 e72 ?_
        refine zg_is9 zd_Ref_standIn_73 (fun w h => by cases h <;> rfl) (by decide) ?_
        refine zg_il8 zd_Ref_standIn_75 ?_
        refine zg_bipush zd_Ref_standIn_77 (by decide) ?_
        refine zg_iand ((m % 16 : Nat) : Int) zd_Ref_standIn_79 e79 ?_
        refine zg_is10 zd_Ref_standIn_80 (fun w h => by cases h <;> rfl) (by decide) ?_
        refine zg_il9 zd_Ref_standIn_82 ?_
        refine zg_al0 zd_Ref_standIn_84 ?_
        refine zg_geti zd_Ref_standIn_85 zf_641 (by omega) (by first | assumption | rfl) rfl ?_
        rw [hUn]
        refine zg_icmp_ge (tgt := 189) zd_Ref_standIn_88 (by decide) (by omega) (by omega) (fun b88 => ?_) (fun b88 => ?_)
        · refine zg_inc8 zd_Ref_standIn_189 (fun w h => by cases h <;> rfl) (by decide) ?_
          refine zg_goto (tgt := 61) zd_Ref_standIn_192 (by decide) ?_
          first
          | exact hskip (fun h => by omega) _ _ _ _ _ _
          | exact hskip (fun h => absurd h.2.2 (by rw [b111]; exact Bool.false_ne_true)) _ _ _ _ _ _
        · refine zg_il10 zd_Ref_standIn_91 ?_
          refine zg_al0 zd_Ref_standIn_93 ?_
          refine zg_geti zd_Ref_standIn_94 zf_641 (by omega) (by first | assumption | rfl) rfl ?_
          rw [hUn]
          refine zg_icmp_ge (tgt := 189) zd_Ref_standIn_97 (by decide) (by omega) (by omega) (fun b97 => ?_) (fun b97 => ?_)
          · refine zg_inc8 zd_Ref_standIn_189 (fun w h => by cases h <;> rfl) (by decide) ?_
            refine zg_goto (tgt := 61) zd_Ref_standIn_192 (by decide) ?_
            first
            | exact hskip (fun h => by omega) _ _ _ _ _ _
            | exact hskip (fun h => absurd h.2.2 (by rw [b111]; exact Bool.false_ne_true)) _ _ _ _ _ _
          · refine zg_al0 zd_Ref_standIn_100 ?_
            refine zg_il5 zd_Ref_standIn_101 ?_
            refine zg_il2 zd_Ref_standIn_103 ?_
            refine zg_il9 zd_Ref_standIn_104 ?_
            refine zg_il10 zd_Ref_standIn_106 ?_
            refine zg_cVp4 zd_Ref_standIn_108 zM_Ref_next zw_796 zi_Ref_next zs_Ref_next (cr_next p1 hg hi16 hj16 hTU) (by decide) (by decide) (by omega) (by first | assumption | rfl) (by decide) rfl (Nat.le_of_ble_eq_true rfl) ?_
            rw [hUva]
            refine zg_if_neB (tgt := 117) zd_Ref_standIn_111 (by decide) (fun b111 => ?_) (fun b111 => ?_)
            · refine zg_al0 zd_Ref_standIn_117 ?_
              refine zg_il2 zd_Ref_standIn_118 ?_
              refine zg_il9 zd_Ref_standIn_119 ?_
              refine zg_il10 zd_Ref_standIn_121 ?_
              refine zg_cVp3 zd_Ref_standIn_123 zM_Ref_between zw_800 zi_Ref_between zs_Ref_between (cr_between hg hi16 hj16 hTU) (by decide) (by decide) (by omega) (by first | assumption | rfl) (by decide) rfl (Nat.le_of_ble_eq_true rfl) ?_
              rw [hUva, ht]
              refine zg_is11 zd_Ref_standIn_126 (fun w h => by cases h <;> rfl) (by decide) ?_
              refine zg_al0 zd_Ref_standIn_128 ?_
              refine zg_il5 zd_Ref_standIn_129 ?_
              refine zg_il2 zd_Ref_standIn_131 ?_
              refine zg_il11 zd_Ref_standIn_132 ?_
              refine zg_cVp3 zd_Ref_standIn_134 zM_Ref_upTo zw_804 zi_Ref_upTo zs_Ref_upTo (cr_upTo p1 hg htb hTU) (by decide) (by decide) (by omega) (by first | assumption | rfl) (by decide) rfl (Nat.le_of_ble_eq_true rfl) ?_
              rw [show zt_upto (zr_va U) bo g t n = sl by rw [hUva]; exact hsl]
              refine zg_is12 zd_Ref_standIn_137 (fun w h => by cases h <;> rfl) (by decide) ?_
              refine zg_al0 zd_Ref_standIn_139 ?_
              refine zg_il12 zd_Ref_standIn_140 ?_
              refine zg_il6 zd_Ref_standIn_142 ?_
              refine zg_iand ((sl &&& le : Nat) : Int) zd_Ref_standIn_144 (zb_and _ _) ?_
              refine zg_il7 zd_Ref_standIn_145 ?_
              refine zg_il12 zd_Ref_standIn_147 ?_
              refine zg_iconst zd_Ref_standIn_149 ?_
              refine zg_ixorR zd_Ref_standIn_150 ?_
              refine zg_iand ((zb_df (zb_df bo le) sl : Nat) : Int) zd_Ref_standIn_151 (zb_andnot _ _) ?_
              refine zg_ior (((sl &&& le) ||| zb_df (zb_df bo le) sl : Nat) : Int) zd_Ref_standIn_152 (zb_or _ _) ?_
              rw [hset]
              refine zg_iconst zd_Ref_standIn_153 ?_
              refine zg_cVp2 zd_Ref_standIn_154 zM_Ref_weigh zw_808 zi_Ref_weigh zs_Ref_weigh (cr_weighA hset16 hTU) (by decide) (by decide) (by omega) (by first | assumption | rfl) (by decide) rfl (Nat.le_of_ble_eq_true rfl) ?_
              rw [hU6, hAt]
              refine zg_is13 zd_Ref_standIn_157 (fun w h => by cases h <;> rfl) (by decide) ?_
              refine zg_al0 zd_Ref_standIn_159 ?_
              refine zg_il5 zd_Ref_standIn_160 ?_
              refine zg_iconst zd_Ref_standIn_162 ?_
              refine zg_cVp2 zd_Ref_standIn_163 zM_Ref_weigh zw_808 zi_Ref_weigh zs_Ref_weigh (cr_weighA p1 hTU) (by decide) (by decide) (by omega) (by first | assumption | rfl) (by decide) rfl (Nat.le_of_ble_eq_true rfl) ?_
              rw [hU6, hal]
              refine zg_il13 zd_Ref_standIn_166 ?_
              refine zg_isub zd_Ref_standIn_168 ?_
              refine zg_is14 zd_Ref_standIn_169 (fun w h => by cases h <;> rfl) (by decide) ?_
              exact rest (by omega) (by omega) b111
            · refine zg_goto (tgt := 189) zd_Ref_standIn_114 (by decide) ?_
              refine zg_inc8 zd_Ref_standIn_189 (fun w h => by cases h <;> rfl) (by decide) ?_
              refine zg_goto (tgt := 61) zd_Ref_standIn_192 (by decide) ?_
              first
              | exact hskip (fun h => by omega) _ _ _ _ _ _
              | exact hskip (fun h => absurd h.2.2 (by rw [b111]; exact Bool.false_ne_true)) _ _ _ _ _ _
  refine zg_al0 zd_Ref_standIn_0 ?_
  refine zg_getr zd_Ref_standIn_1 zf_651 (by omega) (by first | assumption | rfl) rfl (by first | assumption | rfl) ?_
  refine zg_il1 zd_Ref_standIn_4 ?_
  refine zg_iald zd_Ref_standIn_5 (by omega) (by first | assumption | rfl) rfl (by omega) (by decide) ?_
  rw [hf0]
  refine zg_is3 zd_Ref_standIn_6 (fun w h => by cases h <;> rfl) (by decide) ?_
  refine zg_al0 zd_Ref_standIn_7 ?_
  refine zg_al0 zd_Ref_standIn_8 ?_
  refine zg_getr zd_Ref_standIn_9 zf_650 (by omega) (by first | assumption | rfl) rfl (by first | assumption | rfl) ?_
  refine zg_il1 zd_Ref_standIn_12 ?_
  refine zg_iald zd_Ref_standIn_13 (by omega) (by first | assumption | rfl) rfl (by omega) (by decide) ?_
  rw [hs0]
  refine zg_il3 zd_Ref_standIn_14 ?_
  refine zg_cVp2 zd_Ref_standIn_15 zM_Ref_present zw_788 zi_Ref_present zs_Ref_present (cr_present hs hf03 hT) (by decide) (by decide) (by omega) (by first | assumption | rfl) (by decide) rfl (Nat.le_of_ble_eq_true rfl) ?_
  refine zg_is4 zd_Ref_standIn_18 (fun w h => by cases h <;> rfl) (by decide) ?_
  refine zg_al0 zd_Ref_standIn_20 ?_
  refine zg_il4 zd_Ref_standIn_21 ?_
  refine zg_il2 zd_Ref_standIn_23 ?_
  refine zg_cVp2 zd_Ref_standIn_24 zM_Ref_present zw_788 zi_Ref_present zs_Ref_present (cr_present p0 hg hT) (by decide) (by decide) (by omega) (by first | assumption | rfl) (by decide) rfl (Nat.le_of_ble_eq_true rfl) ?_
  rw [hbo]
  refine zg_is5 zd_Ref_standIn_27 (fun w h => by cases h <;> rfl) (by decide) ?_
  refine zg_al0 zd_Ref_standIn_29 ?_
  refine zg_il5 zd_Ref_standIn_30 ?_
  refine zg_il3 zd_Ref_standIn_32 ?_
  refine zg_al0 zd_Ref_standIn_33 ?_
  refine zg_getr zd_Ref_standIn_34 zf_652 (by omega) (by first | assumption | rfl) rfl (by first | assumption | rfl) ?_
  refine zg_il1 zd_Ref_standIn_37 ?_
  refine zg_iald zd_Ref_standIn_38 (by omega) (by first | assumption | rfl) rfl (by omega) (by decide) ?_
  rw [hl0]
  refine zg_cVp3 zd_Ref_standIn_39 zM_Ref_upTo zw_804 zi_Ref_upTo zs_Ref_upTo (cr_upTo p1 hf03 hl0b hT) (by decide) (by decide) (by omega) (by first | assumption | rfl) (by decide) rfl (Nat.le_of_ble_eq_true rfl) ?_
  rw [hle]
  refine zg_is6 zd_Ref_standIn_42 (fun w h => by cases h <;> rfl) (by decide) ?_
  refine zg_il5 zd_Ref_standIn_44 ?_
  refine zg_il6 zd_Ref_standIn_46 ?_
  refine zg_iconst zd_Ref_standIn_48 ?_
  refine zg_ixorR zd_Ref_standIn_49 ?_
  refine zg_iand ((zb_df bo le : Nat) : Int) zd_Ref_standIn_50 (zb_andnot _ _) ?_
  refine zg_is7 zd_Ref_standIn_51 (fun w h => by cases h <;> rfl) (by decide) ?_
  refine zg_al0 zd_Ref_standIn_53 ?_
  refine zg_iconst zd_Ref_standIn_54 ?_
  refine zg_puti zd_Ref_standIn_55 zf_667 rfl (by omega) (by first | assumption | rfl) rfl ?_
  refine zg_iconst zd_Ref_standIn_58 ?_
  refine zg_is8 zd_Ref_standIn_59 (fun w h => by cases h <;> rfl) (by decide) ?_
  refine loop 256 0 _ _ _ _ _ _ _ (by omega) ?_ ?_
  · refine ⟨fun b hb => by rw [zg_u_out _ _ _ _ hb], fun j hj => by rw [zg_u_off _ _ _ _ (by omega)], ?_, ?_, ?_⟩
    · rw [zg_u_off _ _ _ _ (by decide)]; exact h24
    · rw [zg_u_off _ _ _ _ (by decide)]; exact h25
    · rw [zg_u_in]; omega
  · exact Or.inl ⟨zg_u_in _ _ _ _, fun t u h => by obtain ⟨m', q, -⟩ := h; omega⟩
end ZT23

