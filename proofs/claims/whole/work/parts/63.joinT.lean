/-! the class's cells and the reference's cells, and the tree that they tell -/
def zj_C (V : zg_V) (n : Nat) (T : zj_T) (cr : Int) : Prop :=
  zt_T V n ∧ (∀ k, k < 32 → V 201 k = T.1 k) ∧ (∀ k, k < 32 → 0 ≤ V (40 + 5 * k) 2 ∧ V (40 + 5 * k) 2 ≤ 16) ∧
  (∀ k, 1 ≤ k → k < 32 → T.1 k ≠ -1 → zt_nk V V (40 + 5 * k) (T.2.1 k) n) ∧
  (∀ k, 1 ≤ k → k < 32 → T.1 k = 2 → ∃ L, zy_Ls (zt_τ V n) (T.2.1 k) (T.2.2.1 k) (T.2.2.2 k) 3 L ∧ zt_nd V (40 + 5 * k) (T.2.2.1 k) (T.2.2.2 k) L (zx_lean (zt_τ V n) (T.2.1 k) (T.2.2.1 k) (T.2.2.2 k)) ∧ zx_wt V (41 + 5 * k) (zx_T (zt_τ V n) cr (T.2.1 k) (T.2.2.1 k) (T.2.2.2 k)) (zx_B (zt_τ V n) cr (T.2.1 k) (T.2.2.1 k) (T.2.2.2 k)))
def zj_R (V : zg_V) (n : Nat) (T : zj_T) (cr : Int) : Prop :=
  zr_T V n ∧ (∀ k, k < 32 → V 228 k = T.1 k + 1 ∧ V 229 k = (T.2.1 k : Int)) ∧
  (∀ k, k < 32 → T.1 k = 2 → V 230 k = (T.2.2.1 k : Int) ∧ V 231 k = T.2.2.2 k ∧ 1 ≤ zx_B (zr_τ V n) cr (T.2.1 k) (T.2.2.1 k) (T.2.2.2 k)) ∧ zr_sc V
theorem zt_nd_fr {V W : zg_V} {k f : Nat} {l : Int} {L : List zw_E} {lean : Bool} (h : ∀ b, 40 + 5 * k ≤ b → b ≤ 44 + 5 * k → W b = V b) (hN : zt_nd V (40 + 5 * k) f l L lean) : zt_nd W (40 + 5 * k) f l L lean := by
  obtain ⟨a1, a2, a3, a4, a5, a6, a7, a8⟩ := hN
  have h0 := h (40 + 5 * k) (by omega) (by omega)
  refine ⟨by rw [h0]; exact a1, a2, by rw [h0]; exact a3, a4, by rw [h0]; exact a5, a6, by rw [h0]; exact a7, fun i e he => ?_⟩
  have hi : i < L.length := (List.getElem?_eq_some_iff.mp he).1
  have := a8 i e he
  unfold zt_si at this ⊢
  rw [h (40 + 5 * k + 3 + i) (by omega) (by omega)]
  exact this
theorem zj_C_fr {V W : zg_V} {n : Nat} {T : zj_T} {cr : Int} (h : ∀ b, b < 21 ∨ b = 201 ∨ (40 ≤ b ∧ b < 200) → W b = V b) (hC : zj_C V n T cr) : zj_C W n T cr := by
  obtain ⟨c1, c2, c3, c4, c5⟩ := hC
  have hE : zx_E (zt_τ V n) (zt_τ W n) := zx_E_sy (zx_E_V c1.2.1 (fun b hb => h b (Or.inl hb)))
  refine ⟨zt_T_fr (fun b hb => h b (Or.inl hb)) c1, fun k hk => by rw [h 201 (by omega)]; exact c2 k hk, fun k hk => by rw [h (40 + 5 * k) (by omega)]; exact c3 k hk, fun k k1 k2 q => ?_, fun k k1 k2 q => ?_⟩
  · have := c4 k k1 k2 q
    unfold zt_nk at this ⊢
    rw [h (40 + 5 * k) (by omega), h 19 (by omega), h 20 (by omega)]
    exact this
  · obtain ⟨L, l1, l2, l3⟩ := c5 k k1 k2 q
    have hf := l2.2.1
    refine ⟨L, zy_Ls_E1 hE hf (Nat.le_refl 3) l1, ?_, ?_⟩
    · rw [← zx_lean_E hE _ hf]
      exact zt_nd_fr (fun b b1 b2 => h b (by omega)) l2
    · unfold zx_wt at l3 ⊢
      rw [← zx_T_E hE cr _ hf, ← zx_B_E hE cr _ hf, h (41 + 5 * k) (by omega)]
      exact l3
theorem zj_R_fr {V W : zg_V} {n : Nat} {T : zj_T} {cr : Int} (h : ∀ b, 224 ≤ b → b ≤ 231 → b ≠ 227 → W b = V b) (h0 : W 223 0 = V 223 0) (hs : zr_sc W) (hR : zj_R V n T cr) : zj_R W n T cr := by
  obtain ⟨c1, c2, c3, c4⟩ := hR
  have hva : zr_va W = zr_va V := by unfold zr_va; rw [h 224 (by omega) (by omega) (by omega)]
  have hτ : zr_τ W n = zr_τ V n := by
    show (zr_va W, W 225, W 226, n) = (zr_va V, V 225, V 226, n)
    rw [hva, h 225 (by omega) (by omega) (by omega), h 226 (by omega) (by omega) (by omega)]
  refine ⟨?_, fun k hk => ?_, fun k hk q => ?_, hs⟩
  · obtain ⟨a1, a2, a3, a4, a5, a6⟩ := c1
    unfold zr_T
    rw [h0, h 224 (by omega) (by omega) (by omega), h 225 (by omega) (by omega) (by omega), h 226 (by omega) (by omega) (by omega)]
    exact ⟨a1, a2, a3, a4, a5, a6⟩
  · rw [h 228 (by omega) (by omega) (by omega), h 229 (by omega) (by omega) (by omega)]; exact c2 k hk
  · rw [h 230 (by omega) (by omega) (by omega), h 231 (by omega) (by omega) (by omega), hτ]; exact c3 k hk q
/-- a turn of the class -/
theorem zj_C_st {V V' : zg_V} {n lim k : Nat} {T : zj_T} {cr lf : Int} (hC : zj_C V n T cr) (hI : zj_I T n lim) (hk : 1 ≤ k ∧ k < 32) (hw : T.1 k = 0) (hlim : lim ≤ 4) (h : zt_tn V V' n (T.2.1 k) k cr lf lim) :
    zj_C V' n (zj_st (zt_τ V n) cr lf lim T k) cr ∧ ∀ b, b < 40 ∨ b = 200 ∨ b = 202 ∨ b = 203 ∨ 214 ≤ b → V' b = V b := by
  obtain ⟨c1, c2, c3, c4, c5⟩ := hC
  obtain ⟨i1, i2, i3, i4, i5, i6, i7, i8⟩ := hI
  have hn16 := c1.2.1
  rcases h with ⟨h1, h2, h3, h4⟩ | ⟨h0, f0, t0, L, hb, hL, hnd, hwt, h3, h4, h5, h6, h7⟩
  · have hfr : ∀ b, b < 40 ∨ b = 200 ∨ b = 202 ∨ b = 203 ∨ 214 ≤ b → V' b = V b := fun b hb => h2 b (by omega)
    refine ⟨?_, hfr⟩
    rw [zj_st_l h1]
    have hE : zx_E (zt_τ V n) (zt_τ V' n) := zx_E_sy (zx_E_V hn16 (fun b hb => hfr b (by omega)))
    refine ⟨zt_T_fr (fun b hb => hfr b (by omega)) c1, fun j hj => ?_, fun j hj => ?_, fun j j1 j2 q => ?_, fun j j1 j2 q => ?_⟩
    · show V' 201 j = zj_u T.1 k 1 j
      rw [h4]
      by_cases e : j = k
      · subst e; rw [zg_u_in, zj_u_i]
      · rw [zg_u_off _ _ _ _ e, zj_u_o _ _ _ e]; exact c2 j hj
    · by_cases e : j = k
      · subst e; rw [h3 2 (by omega)]; exact c3 j hj
      · rw [h2 (40 + 5 * j) (by omega)]; exact c3 j hj
    · have q : zj_u T.1 k 1 j ≠ -1 := q
      show zt_nk V' V' (40 + 5 * j) (T.2.1 j) n
      unfold zt_nk
      rw [hfr 19 (by omega), hfr 20 (by omega)]
      by_cases e : j = k
      · subst e
        rw [h3 0 (by omega), h3 1 (by omega), h3 2 (by omega)]
        exact c4 j j1 j2 (by omega)
      · rw [h2 (40 + 5 * j) (by omega)]
        exact c4 j j1 j2 (by rw [zj_u_o _ _ _ e] at q; exact q)
    · have q : zj_u T.1 k 1 j = 2 := q
      have e : j ≠ k := fun e => by subst e; rw [zj_u_i] at q; omega
      rw [zj_u_o _ _ _ e] at q
      obtain ⟨L, l1, l2, l3⟩ := c5 j j1 j2 q
      have hf := l2.2.1
      refine ⟨L, zy_Ls_E1 hE hf (Nat.le_refl 3) l1, ?_, ?_⟩
      · show zt_nd V' (40 + 5 * j) (T.2.2.1 j) (T.2.2.2 j) L (zx_lean (zt_τ V' n) (T.2.1 j) (T.2.2.1 j) (T.2.2.2 j))
        rw [← zx_lean_E hE _ hf]
        exact zt_nd_fr (fun b b1 b2 => h2 b (by omega)) l2
      · show zx_wt V' (41 + 5 * j) (zx_T (zt_τ V' n) cr (T.2.1 j) (T.2.2.1 j) (T.2.2.2 j)) (zx_B (zt_τ V' n) cr (T.2.1 j) (T.2.2.1 j) (T.2.2.2 j))
        unfold zx_wt at l3 ⊢
        rw [← zx_T_E hE cr _ hf, ← zx_B_E hE cr _ hf, h2 (41 + 5 * j) (by omega)]
        exact l3
  · have hk16 : k < 16 := Nat.lt_of_lt_of_le h0 (Nat.pow_le_pow_right (n := 2) (by omega) hlim)
    have hfr : ∀ b, b < 40 ∨ b = 200 ∨ b = 202 ∨ b = 203 ∨ 214 ≤ b → V' b = V b := fun b hb => h5 b (by omega)
    refine ⟨?_, hfr⟩
    rw [zj_st_s h0 hb hL]
    have hE : zx_E (zt_τ V n) (zt_τ V' n) := zx_E_sy (zx_E_V hn16 (fun b hb => hfr b (by omega)))
    obtain ⟨d1, d2⟩ := i6 k hk.1 hk16 (by omega)
    have eK : ∀ j, zj_u (zj_u (zj_u T.1 k 2) (2 * k) 0) (2 * k + 1) 0 j = if j = 2 * k + 1 then 0 else if j = 2 * k then 0 else if j = k then 2 else T.1 j := fun j => rfl
    have eR : ∀ l r j, zj_u (zj_u T.2.1 (2 * k) l) (2 * k + 1) r j = if j = 2 * k + 1 then r else if j = 2 * k then l else T.2.1 j := fun l r j => rfl
    have eF : ∀ j, zj_u T.2.2.1 k f0 j = if j = k then f0 else T.2.2.1 j := fun j => rfl
    have eB : ∀ j, zj_u T.2.2.2 k t0 j = if j = k then t0 else T.2.2.2 j := fun j => rfl
    have hri : zb_df (T.2.1 k) (zs_mk (fun r => (T.2.1 k).testBit r && zt_gl V n (T.2.1 k) f0 t0 L r) n) = zj_ri (zt_τ V n) (T.2.1 k) f0 t0 L := zj_df (i3 k hk.2)
    have hle : zs_mk (fun r => (T.2.1 k).testBit r && zt_gl V n (T.2.1 k) f0 t0 L r) n = zj_le (zt_τ V n) (T.2.1 k) f0 t0 L := rfl
    rw [hri] at h7
    rw [hle] at h6
    have b1 := zt_st_b c1 (zj_le (zt_τ V n) (T.2.1 k) f0 t0 L)
    have b2 := zt_st_b c1 (zj_ri (zt_τ V n) (T.2.1 k) f0 t0 L)
    have o5 : ∀ j, j < 32 → j ≠ k → j ≠ 2 * k → j ≠ 2 * k + 1 → V' (40 + 5 * j) = V (40 + 5 * j) := fun j hj a b c => h5 _ (by omega)
    refine ⟨zt_T_fr (fun b hb => hfr b (by omega)) c1, fun j hj => ?_, fun j hj => ?_, fun j j1 j2 q => ?_, fun j j1 j2 q => ?_⟩
    · show V' 201 j = zj_u (zj_u (zj_u T.1 k 2) (2 * k) 0) (2 * k + 1) 0 j
      rw [h4, eK]
      by_cases e1 : j = 2 * k + 1
      · subst e1; rw [zg_u_in, if_pos rfl]
      · by_cases e2 : j = 2 * k
        · subst e2; rw [zg_u_off _ _ _ _ e1, zg_u_in, if_neg e1, if_pos rfl]
        · by_cases e3 : j = k
          · subst e3; rw [zg_u_off _ _ _ _ e1, zg_u_off _ _ _ _ e2, zg_u_in, if_neg e1, if_neg e2, if_pos rfl]
          · rw [zg_u_off _ _ _ _ e1, zg_u_off _ _ _ _ e2, zg_u_off _ _ _ _ e3, if_neg e1, if_neg e2, if_neg e3]; exact c2 j hj
    · by_cases e1 : j = 2 * k + 1
      · subst e1; rw [h7.2.2]; exact b2
      · by_cases e2 : j = 2 * k
        · subst e2; rw [h6.2.2]; exact b1
        · by_cases e3 : j = k
          · subst e3; rw [h3 2 (by omega)]; exact c3 j hj
          · rw [o5 j hj e3 e2 e1]; exact c3 j hj
    · have q : zj_u (zj_u (zj_u T.1 k 2) (2 * k) 0) (2 * k + 1) 0 j ≠ -1 := q
      show zt_nk V' V' (40 + 5 * j) (zj_u (zj_u T.2.1 (2 * k) (zj_le (zt_τ V n) (T.2.1 k) f0 t0 L)) (2 * k + 1) (zj_ri (zt_τ V n) (T.2.1 k) f0 t0 L) j) n
      unfold zt_nk
      rw [hfr 19 (by omega), hfr 20 (by omega), eR]
      by_cases e1 : j = 2 * k + 1
      · subst e1; rw [if_pos rfl]; exact h7
      · by_cases e2 : j = 2 * k
        · subst e2; rw [if_neg e1, if_pos rfl]; exact h6
        · rw [if_neg e1, if_neg e2]
          by_cases e3 : j = k
          · subst e3
            rw [h3 0 (by omega), h3 1 (by omega), h3 2 (by omega)]
            exact c4 j j1 j2 (by omega)
          · rw [o5 j j2 e3 e2 e1]
            exact c4 j j1 j2 (by rw [eK, if_neg e1, if_neg e2, if_neg e3] at q; exact q)
    · have q : zj_u (zj_u (zj_u T.1 k 2) (2 * k) 0) (2 * k + 1) 0 j = 2 := q
      have e1 : j ≠ 2 * k + 1 := fun e => by rw [eK, if_pos e] at q; omega
      have e2 : j ≠ 2 * k := fun e => by rw [eK, if_neg e1, if_pos e] at q; omega
      have hrj : zj_u (zj_u T.2.1 (2 * k) (zj_le (zt_τ V n) (T.2.1 k) f0 t0 L)) (2 * k + 1) (zj_ri (zt_τ V n) (T.2.1 k) f0 t0 L) j = T.2.1 j := by rw [eR, if_neg e1, if_neg e2]
      show ∃ L', zy_Ls (zt_τ V' n) (zj_u (zj_u T.2.1 (2 * k) (zj_le (zt_τ V n) (T.2.1 k) f0 t0 L)) (2 * k + 1) (zj_ri (zt_τ V n) (T.2.1 k) f0 t0 L) j) (zj_u T.2.2.1 k f0 j) (zj_u T.2.2.2 k t0 j) 3 L' ∧ zt_nd V' (40 + 5 * j) (zj_u T.2.2.1 k f0 j) (zj_u T.2.2.2 k t0 j) L' (zx_lean (zt_τ V' n) (zj_u (zj_u T.2.1 (2 * k) (zj_le (zt_τ V n) (T.2.1 k) f0 t0 L)) (2 * k + 1) (zj_ri (zt_τ V n) (T.2.1 k) f0 t0 L) j) (zj_u T.2.2.1 k f0 j) (zj_u T.2.2.2 k t0 j)) ∧ zx_wt V' (41 + 5 * j) (zx_T (zt_τ V' n) cr (zj_u (zj_u T.2.1 (2 * k) (zj_le (zt_τ V n) (T.2.1 k) f0 t0 L)) (2 * k + 1) (zj_ri (zt_τ V n) (T.2.1 k) f0 t0 L) j) (zj_u T.2.2.1 k f0 j) (zj_u T.2.2.2 k t0 j)) (zx_B (zt_τ V' n) cr (zj_u (zj_u T.2.1 (2 * k) (zj_le (zt_τ V n) (T.2.1 k) f0 t0 L)) (2 * k + 1) (zj_ri (zt_τ V n) (T.2.1 k) f0 t0 L) j) (zj_u T.2.2.1 k f0 j) (zj_u T.2.2.2 k t0 j))
      rw [hrj, eF, eB]
      by_cases e3 : j = k
      · subst e3
        rw [if_pos rfl, if_pos rfl]
        have hf : f0 < 3 := hb.1.2
        refine ⟨L, zy_Ls_E1 hE hf (Nat.le_refl 3) hL, ?_, ?_⟩
        · rw [← zx_lean_E hE _ hf]; exact hnd
        · rw [← zx_T_E hE cr _ hf, ← zx_B_E hE cr _ hf]; exact hwt
      · rw [if_neg e3, if_neg e3]
        rw [eK, if_neg e1, if_neg e2, if_neg e3] at q
        obtain ⟨L', l1, l2, l3⟩ := c5 j j1 j2 q
        have hf := l2.2.1
        have oj : ∀ b, 40 + 5 * j ≤ b → b ≤ 44 + 5 * j → V' b = V b := fun b b1 b2 => h5 b (by omega)
        refine ⟨L', zy_Ls_E1 hE hf (Nat.le_refl 3) l1, ?_, ?_⟩
        · rw [← zx_lean_E hE _ hf]
          exact zt_nd_fr oj l2
        · unfold zx_wt at l3 ⊢
          rw [← zx_T_E hE cr _ hf, ← zx_B_E hE cr _ hf, oj (41 + 5 * j) (by omega) (by omega)]
          exact l3
theorem zr_x_va (V : zg_V) (r : Nat) : ∀ f, f < 3 → zr_x (V 224 (3 * r)) (V 224 (3 * r + 1)) (V 224 (3 * r + 2)) f = zr_va V r f := by
  intro f hf
  unfold zr_x zr_va
  match f, hf with
  | 0, _ => rfl
  | 1, _ => rfl
  | 2, _ => rfl
theorem zr_gl_j {V : zg_V} {n s f0 : Nat} {t0 : Int} {L : List zw_E} (hf : f0 < 3) (hL : ∀ e, e ∈ L → e.1 < 3) (r : Nat) : zr_gl V n s f0 t0 L r = zj_gl (zr_τ V n) s f0 t0 L r := by
  unfold zr_gl zj_gl
  exact zw_go_c (zr_x_va V r) _ (fun e he => by
    rcases List.mem_cons.mp he with q | q
    · subst q; exact hf
    · exact hL e q) _
theorem zx_B_1 {V : zg_V} {n : Nat} (hT : zr_T V n) {cr lf : Int} (hlf : 1 ≤ lf) {s f : Nat} {t : Int} (h : zx_Ca (zr_τ V n) lf s f t) : 1 ≤ zx_B (zr_τ V n) cr s f t := by
  have h1 := h.1.2.1
  have h2 := h.1.2.2
  exact (zr_TB hT cr s f t).2.2.1 (by omega) (by omega)
/-- a turn of the reference -/
theorem zj_R_st {V V' : zg_V} {n lim k : Nat} {T : zj_T} {cr lf : Int} {L : List zw_E} (hR : zj_R V n T cr) (hI : zj_I T n lim) (hk : 1 ≤ k ∧ k < 32) (hw : T.1 k = 0) (hlim : lim ≤ 4) (hlf : 1 ≤ lf) (hLs : ∀ f0 t0, zx_best (zr_τ V n) cr (T.2.1 k) (zx_Ca (zr_τ V n) lf (T.2.1 k)) f0 t0 → zy_Ls (zr_τ V n) (T.2.1 k) f0 t0 3 L)
    (hs : zr_sc V') (hff : zr_ff V V') (hon : zv_on zr_tS V V') (h : zr_tn V V' n (T.2.1 k) k cr lf lim L) : zj_R V' n (zj_st (zr_τ V n) cr lf lim T k) cr := by
  obtain ⟨c1, c2, c3, c4⟩ := hR
  obtain ⟨i1, i2, i3, i4, i5, i6, i7, i8⟩ := hI
  have o4 : V' 224 = V 224 := hon 224 (by unfold zr_tS; omega)
  have o5 : V' 225 = V 225 := hon 225 (by unfold zr_tS; omega)
  have o6 : V' 226 = V 226 := hon 226 (by unfold zr_tS; omega)
  have hva : zr_va V' = zr_va V := by unfold zr_va; rw [o4]
  have hτ : zr_τ V' n = zr_τ V n := by
    show (zr_va V', V' 225, V' 226, n) = (zr_va V, V 225, V 226, n)
    rw [hva, o5, o6]
  have hT' : zr_T V' n := zr_T_fr (fun b b1 b2 => hon b (by unfold zr_tS; omega)) (hff 0 (by omega)) c1
  have hdp := zr_dp_2 hk hlim
  have hk2 := i7 k hk.1 hk.2 (by omega)
  rcases h with ⟨h1, h2, h3, h4, h5⟩ | ⟨h0, hk16, f0, t0, hb, h4, h5, h6, h7, h8, h9⟩
  · rw [zj_st_l (by
      rcases h1 with q | q
      · exact Or.inl ((hdp.2 hk2).mp q)
      · exact Or.inr q)]
    refine ⟨hT', fun j hj => ⟨?_, ?_⟩, fun j hj q => ?_, hs⟩
    · show V' 228 j = zj_u T.1 k 1 j + 1
      rw [h2]
      by_cases e : j = k
      · subst e; rw [zg_u_in, zj_u_i]; rfl
      · rw [zg_u_off _ _ _ _ e, zj_u_o _ _ _ e]; exact (c2 j hj).1
    · show V' 229 j = _
      rw [h3]; exact (c2 j hj).2
    · have q : zj_u T.1 k 1 j = 2 := q
      have e : j ≠ k := fun e => by subst e; rw [zj_u_i] at q; omega
      rw [zj_u_o _ _ _ e] at q
      rw [h4, h5, hτ]
      exact c3 j hj q
  · have hkl : k < 2 ^ lim := by
      have : ¬ 2 ^ lim ≤ k := fun q => h0 ((hdp.2 hk2).mpr q)
      omega
    have hL := hLs f0 t0 hb
    have hf : f0 < 3 := hb.1.2
    have hm := (zy_Ls_mem hf hL).2
    rw [zj_st_s hkl hb hL]
    have eK : ∀ j, zj_u (zj_u (zj_u T.1 k 2) (2 * k) 0) (2 * k + 1) 0 j = if j = 2 * k + 1 then 0 else if j = 2 * k then 0 else if j = k then 2 else T.1 j := fun j => rfl
    have eR : ∀ l r j, zj_u (zj_u T.2.1 (2 * k) l) (2 * k + 1) r j = if j = 2 * k + 1 then r else if j = 2 * k then l else T.2.1 j := fun l r j => rfl
    have eF : ∀ j, zj_u T.2.2.1 k f0 j = if j = k then f0 else T.2.2.1 j := fun j => rfl
    have eB : ∀ j, zj_u T.2.2.2 k t0 j = if j = k then t0 else T.2.2.2 j := fun j => rfl
    have g8 : V' 229 (2 * k) = (zj_le (zr_τ V n) (T.2.1 k) f0 t0 L : Int) := by
      rw [h8]
      unfold zj_le
      congr 1
      exact zs_mk_congr (fun i _ => by rw [zr_gl_j hf (fun e he => (hm e he).1)])
    have g9 : V' 229 (2 * k + 1) = (zj_ri (zr_τ V n) (T.2.1 k) f0 t0 L : Int) := by
      rw [h9]
      unfold zj_ri
      congr 1
      exact zs_mk_congr (fun i _ => by rw [zr_gl_j hf (fun e he => (hm e he).1)])
    refine ⟨hT', fun j hj => ⟨?_, ?_⟩, fun j hj q => ?_, hs⟩
    · show V' 228 j = zj_u (zj_u (zj_u T.1 k 2) (2 * k) 0) (2 * k + 1) 0 j + 1
      rw [h4, eK]
      by_cases e1 : j = 2 * k + 1
      · subst e1; rw [zg_u_in, if_pos rfl]; rfl
      · by_cases e2 : j = 2 * k
        · subst e2; rw [zg_u_off _ _ _ _ e1, zg_u_in, if_neg e1, if_pos rfl]; rfl
        · by_cases e3 : j = k
          · subst e3; rw [zg_u_off _ _ _ _ e1, zg_u_off _ _ _ _ e2, zg_u_in, if_neg e1, if_neg e2, if_pos rfl]; rfl
          · rw [zg_u_off _ _ _ _ e1, zg_u_off _ _ _ _ e2, zg_u_off _ _ _ _ e3, if_neg e1, if_neg e2, if_neg e3]; exact (c2 j hj).1
    · show V' 229 j = ((zj_u (zj_u T.2.1 (2 * k) (zj_le (zr_τ V n) (T.2.1 k) f0 t0 L)) (2 * k + 1) (zj_ri (zr_τ V n) (T.2.1 k) f0 t0 L) j : Nat) : Int)
      rw [eR]
      by_cases e1 : j = 2 * k + 1
      · subst e1; rw [if_pos rfl]; exact g9
      · by_cases e2 : j = 2 * k
        · subst e2; rw [if_neg e1, if_pos rfl]; exact g8
        · rw [if_neg e1, if_neg e2, h7 j e2 e1]; exact (c2 j hj).2
    · have q : zj_u (zj_u (zj_u T.1 k 2) (2 * k) 0) (2 * k + 1) 0 j = 2 := q
      have e1 : j ≠ 2 * k + 1 := fun e => by rw [eK, if_pos e] at q; omega
      have e2 : j ≠ 2 * k := fun e => by rw [eK, if_neg e1, if_pos e] at q; omega
      have hrj : zj_u (zj_u T.2.1 (2 * k) (zj_le (zr_τ V n) (T.2.1 k) f0 t0 L)) (2 * k + 1) (zj_ri (zr_τ V n) (T.2.1 k) f0 t0 L) j = T.2.1 j := by rw [eR, if_neg e1, if_neg e2]
      show V' 230 j = ((zj_u T.2.2.1 k f0 j : Nat) : Int) ∧ V' 231 j = zj_u T.2.2.2 k t0 j ∧ 1 ≤ zx_B (zr_τ V' n) cr (zj_u (zj_u T.2.1 (2 * k) (zj_le (zr_τ V n) (T.2.1 k) f0 t0 L)) (2 * k + 1) (zj_ri (zr_τ V n) (T.2.1 k) f0 t0 L) j) (zj_u T.2.2.1 k f0 j) (zj_u T.2.2.2 k t0 j)
      rw [hrj, eF, eB, hτ, h5, h6]
      by_cases e3 : j = k
      · subst e3
        rw [zg_u_in, zg_u_in, if_pos rfl, if_pos rfl]
        exact ⟨rfl, rfl, zx_B_1 c1 hlf hb.1⟩
      · rw [zg_u_off _ _ _ _ e3, zg_u_off _ _ _ _ e3, if_neg e3, if_neg e3]
        rw [eK, if_neg e1, if_neg e2, if_neg e3] at q
        exact c3 j hj q

