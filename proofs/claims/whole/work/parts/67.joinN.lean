/-! the reference looks at its own cells only -/
section ZJ7
variable {V W : zg_V} {n : Nat} {sr ft : Nat → Nat}
theorem zr_ge_T (h : ∀ b, 223 ≤ b → W b = V b) (hT : zr_T V n) : zr_T W n := by
  unfold zr_T at hT ⊢
  rw [h 223 (by decide), h 224 (by decide), h 225 (by decide), h 226 (by decide)]
  exact hT
theorem zr_ge_τ (h : ∀ b, 223 ≤ b → W b = V b) : zr_τ W n = zr_τ V n := by
  show (zr_va W, W 225, W 226, n) = (zr_va V, V 225, V 226, n)
  have hva : zr_va W = zr_va V := by unfold zr_va; rw [h 224 (by decide)]
  rw [hva, h 225 (by decide), h 226 (by decide)]
theorem zr_ge_In (h : ∀ b, 223 ≤ b → W b = V b) (hI : zr_In V n sr) : zr_In W n sr := by
  obtain ⟨a, b, c, d, e⟩ := hI
  unfold zr_In
  rw [h 229 (by decide), h 228 (by decide), h 223 (by decide)]
  exact ⟨a, b, c, zr_ge_T h d, e⟩
theorem zr_ge_Fe (h : ∀ b, 223 ≤ b → W b = V b) (hF : zr_Fe V ft) : zr_Fe W ft := by
  unfold zr_Fe at hF ⊢
  rw [h 228 (by decide), h 230 (by decide), h 231 (by decide)]
  exact hF
theorem zr_ge_sc (h : ∀ b, 223 ≤ b → W b = V b) (hs : zr_sc V) : zr_sc W := by
  unfold zr_sc at hs ⊢
  rw [h 223 (by decide)]
  exact hs
theorem zr_ge_kv (h : ∀ b, 223 ≤ b → W b = V b) (k : Int) : zr_kv W n sr k = zr_kv V n sr k := by
  have a1 : zr_er W n sr = zr_er V n sr := by
    unfold zr_er zr_ek
    rw [h 228 (by decide), h 225 (by decide), h 226 (by decide)]
  have a2 : zr_sp W = zr_sp V := by unfold zr_sp; rw [h 228 (by decide)]
  have a3 : zr_kd W = zr_kd V := by unfold zr_kd; rw [h 228 (by decide)]
  unfold zr_kv
  rw [a1, a2, a3, h 223 (by decide)]
end ZJ7
section ZJ7b
variable {V W : zg_V} {sh n lim m m' : Nat} {T : zj_T} {cr lf : Int}
theorem zj_W_fr (h1 : W 201 = V 201) (h2 : ∀ k, k < 32 → W (40 + 5 * k) = V (40 + 5 * k)) (h3 : W 203 = V 203) (h4 : ∀ j, j < 15 → W 223 j = V 223 j) (h16 : ∀ k, k < 32 → V 201 k = 2 → k < 16) (h : zj_W V sh T) : zj_W W sh T := by
  rcases h with ⟨a, b⟩ | ⟨a, b, c, d, e, f⟩
  · exact Or.inl ⟨a, by rw [h4 12 (by decide)]; exact b⟩
  · refine Or.inr ⟨a, by rw [h4 12 (by decide)]; exact b, by rw [h4 13 (by decide)]; exact c, by rw [h4 14 (by decide)]; exact d, e, fun k k1 k2 => ?_⟩
    rw [h3, f k k1 k2, h4 13 (by decide), h4 14 (by decide)]
    refine zc_sh_c (fun j j1 j2 => ⟨?_, ?_, ?_⟩) (fun j _ _ => by rw [h1]) _ _ k k1 k2
    · show V (40 + 5 * j) 2 = W (40 + 5 * j) 2
      rw [h2 j j2]
    · show decide (V 201 j = 2) = decide (W 201 j = 2)
      rw [h1]
    · intro q
      exact h16 j j2 (of_decide_eq_true q)
theorem zj_16 (h : zj_J V sh n T cr lim lf m) : ∀ k, k < 32 → V 201 k = 2 → k < 16 := fun k hk q => (h.2.2.1.2.2.2.2.1 k hk (by rw [← h.1.2.1 k hk]; exact q)).1
/-- what a question leaves -/
theorem zj_J_fr (h1 : ∀ b, b < 204 → ¬ (23 ≤ b ∧ b ≤ 38) → W b = V b) (h2 : ∀ b, 224 ≤ b → b ≤ 231 → b ≠ 227 → W b = V b) (h3 : ∀ j, j < 15 → W 223 j = V 223 j) (hs : zr_sc W) (hS : zt_kd (W 217) ∧ W 217 0 ≠ 2) (hO : zj_O W m') (h : zj_J V sh n T cr lim lf m) : zj_J W sh n T cr lim lf m' := by
  have h16 := zj_16 h
  obtain ⟨a, b, c, d, e, f, g, -⟩ := h
  refine ⟨zj_C_fr (fun b hb => h1 b (by omega) (by omega)) a, zj_R_fr h2 (h3 0 (by decide)) hs b, c, ?_, ⟨by rw [h1 203 (by decide) (by omega)]; exact e.1, hS.1, hS.2⟩, zj_W_fr (h1 201 (by decide) (by omega)) (fun k hk => h1 _ (by omega) (by omega)) (h1 203 (by decide) (by omega)) h3 h16 f, ?_, hO⟩
  · unfold zj_P at d ⊢
    rw [h1 19 (by decide) (by omega), h1 20 (by decide) (by omega), h2 225 (by decide) (by decide) (by decide), h2 226 (by decide) (by decide) (by decide), h2 224 (by decide) (by decide) (by decide)]
    exact ⟨d.1, d.2.1, d.2.2.1, fun r f hr hf => by rw [h1 (3 + r) (by omega) (by omega)]; exact d.2.2.2 r f hr hf⟩
  · unfold zj_K at g ⊢
    rw [h1 0 (by decide) (by omega), h3 5 (by decide), h3 6 (by decide), h3 7 (by decide)]
    exact g
theorem zj_J_qq (hq : zr_qq V W) (h : zj_J V sh n T cr lim lf m) : zj_J W sh n T cr lim lf m := by
  have o : ∀ b, b < 223 → W b = V b := fun b hb => hq.1 b (by omega)
  have o2 : ∀ b, 224 ≤ b → b ≤ 231 → W b = V b := fun b b1 b2 => hq.1 b (by omega)
  refine zj_J_fr (fun b hb _ => o b (by omega)) (fun b b1 b2 _ => o2 b b1 b2) (fun j hj => hq.2.1 j (by omega)) hq.2.2 (by rw [o 217 (by decide)]; exact h.2.2.2.2.1.2) ?_ h
  intro r c hr hc
  rw [o (23 + r) (by omega), o2 227 (by decide) (by decide)]
  exact h.2.2.2.2.2.2.2 r c hr hc
theorem zj_O_mono (hm : m ≤ m') (h : zj_J V sh n T cr lim lf m) : zj_J V sh n T cr lim lf m' := by
  obtain ⟨a, b, c, d, e, f, g, o⟩ := h
  exact ⟨a, b, c, d, e, f, g, fun r c hr hc => by have := o r c hr hc; exact ⟨this.1, this.2.1, by omega⟩⟩
theorem zj_A_qq (hq : zr_qq V W) (h : zj_J V sh n T cr lim lf m) : zj_A W sh (m + 1) := ⟨n, T, cr, lim, lf, zj_O_mono (by omega) (zj_J_qq hq h)⟩
/-- nothing changed -/
theorem zj_A_id (h : zj_J V sh n T cr lim lf m) : zj_A V sh (m + 1) := ⟨n, T, cr, lim, lf, zj_O_mono (by omega) h⟩
/-- the class changed its scratch cells -/
theorem zj_J_cs (h1 : ∀ b, b < 204 → W b = V b) (h2 : ∀ b, 223 ≤ b → W b = V b) (hS : zt_kd (W 217) ∧ W 217 0 ≠ 2) (h : zj_J V sh n T cr lim lf m) : zj_J W sh n T cr lim lf m := by
  refine zj_J_fr (fun b hb _ => h1 b hb) (fun b b1 b2 _ => h2 b (by omega)) (fun j hj => by rw [h2 223 (by decide)]) (zr_ge_sc h2 (zj_In h).2.2) hS ?_ h
  intro r c hr hc
  rw [h1 (23 + r) (by omega), h2 227 (by decide)]
  exact h.2.2.2.2.2.2.2 r c hr hc
theorem zr_T_r {V W : zg_V} {n : Nat} (h0 : W 223 0 = V 223 0) (h4 : W 224 = V 224) (h5 : W 225 = V 225) (h6 : W 226 = V 226) (hT : zr_T V n) : zr_T W n := by
  unfold zr_T at hT ⊢
  rw [h0, h4, h5, h6]
  exact hT
/-- all that starts anew -/
theorem zj_new {U W V1 V2 : zg_V} {n' lim' m' : Nat} {cr' lf' : Int} (h : zj_J V sh n T cr lim lf m) (hU : ∀ b, 39 ≤ b → b < 223 → U b = V b) (h1 : V1 = zt_an U n') (hW : ∀ b, b < 223 → W b = V1 b) (h2 : zr_an W V2 n') (hs : zr_sc W) (hT : zt_T U n') (hTr : zr_T W n')
    (p1 : U 19 = W 225) (p2 : U 20 = W 226) (p3 : ∀ r, n' ≤ r → U 20 r = 0) (p4 : ∀ r f, r < 16 → f < 3 → U (3 + r) f = W 224 (3 * r + f)) (k1 : U 0 10 = cr' ∧ U 0 11 = (lim' : Int) ∧ U 0 12 = lf') (k2 : W 223 5 = cr' ∧ W 223 6 = (lim' : Int) ∧ W 223 7 = lf') (k3 : (0 ≤ cr' ∧ cr' ≤ 2) ∧ lim' ≤ 4 ∧ (1 ≤ lf' ∧ lf' ≤ 8))
    (o1 : ∀ r c, r < 16 → c < 4 → U (23 + r) c = W 227 (4 * r + c) ∧ 0 ≤ U (23 + r) c ∧ U (23 + r) c ≤ (m' : Int)) : zj_A V2 200 m' := by
  obtain ⟨a, b, c, d, e, f, g, o⟩ := h
  refine ⟨n', _, cr', lim', lf', zj_J_new (U := U) (W := W) (fun x hx => ?_) hT (fun k hk => ?_) ?_ h2 hTr hs p1 p2 p3 p4 k1 k2 k3 o1⟩
  · rw [h2.1 x (by omega), hW x hx, h1]
  · rw [hU _ (by omega) (by omega)]; exact a.2.2.1 k hk
  · unfold zj_S
    rw [hU 203 (by decide) (by decide), hU 217 (by decide) (by decide)]; exact e
/-- begin -/
theorem zj_begin {V1 V2 : zg_V} {cr' lim' lf' : Int} (h : zj_J V sh n T cr lim lf m) (hok : (0 ≤ cr' ∧ cr' ≤ 2) ∧ (0 ≤ lim' ∧ lim' ≤ 4) ∧ (1 ≤ lf' ∧ lf' ≤ 8)) (h1 : V1 = zt_an (zg_u (zg_u (zg_u V 0 10 cr') 0 11 lim') 0 12 lf') n) (h2 : zr_an (zg_u (zg_u (zg_u V1 223 5 cr') 223 6 lim') 223 7 lf') V2 n) : zj_A V2 200 (m + 1) := by
  have hJ := h
  obtain ⟨a, b, c, d, e, f, g, o⟩ := h
  have u0 : ∀ x, x ≠ 0 → zg_u (zg_u (zg_u V 0 10 cr') 0 11 lim') 0 12 lf' x = V x := fun x hx => by rw [zg_u_out _ _ _ _ hx, zg_u_out _ _ _ _ hx, zg_u_out _ _ _ _ hx]
  have w0 : ∀ x, x ≠ 223 → zg_u (zg_u (zg_u V1 223 5 cr') 223 6 lim') 223 7 lf' x = V1 x := fun x hx => by rw [zg_u_out _ _ _ _ hx, zg_u_out _ _ _ _ hx, zg_u_out _ _ _ _ hx]
  have wf : ∀ j, j ≠ 5 → j ≠ 6 → j ≠ 7 → zg_u (zg_u (zg_u V1 223 5 cr') 223 6 lim') 223 7 lf' 223 j = V1 223 j := fun j a b c => by rw [zg_u_off _ _ _ _ c, zg_u_off _ _ _ _ b, zg_u_off _ _ _ _ a]
  have v1 : ∀ x, 223 ≤ x → V1 x = V x := fun x hx => by rw [h1, zt_an_o _ _ (by omega) (by omega), u0 x (by omega)]
  refine zj_new hJ (lim' := lim'.toNat) (fun x x1 x2 => u0 x (by omega)) h1 (fun x hx => w0 x (by omega)) h2 ?_ ?_ ?_ ?_ ?_ ?_ ?_ (cr' := cr') (lf' := lf') ⟨?_, ?_, ?_⟩ ⟨?_, ?_, ?_⟩ ⟨hok.1, by omega, hok.2.2⟩ ?_
  · unfold zr_sc
    rw [wf 18 (by decide) (by decide) (by decide), wf 24 (by decide) (by decide) (by decide), wf 25 (by decide) (by decide) (by decide), v1 223 (by decide)]
    exact b.2.2.2
  · obtain ⟨a1, a2, a3, a4, a5, a6⟩ := a.1
    unfold zt_T
    rw [u0 1 (by decide), u0 19 (by decide), u0 20 (by decide)]
    exact ⟨a1, a2, fun r f p q => by rw [u0 (3 + r) (by omega)]; exact a3 r f p q, a4, a5, a6⟩
  · exact zr_T_r (V := V) (by rw [wf 0 (by decide) (by decide) (by decide), v1 223 (by decide)]) (by rw [w0 224 (by decide), v1 224 (by decide)]) (by rw [w0 225 (by decide), v1 225 (by decide)]) (by rw [w0 226 (by decide), v1 226 (by decide)]) b.1
  · rw [u0 19 (by decide), w0 225 (by decide), v1 225 (by decide)]; exact d.1
  · rw [u0 20 (by decide), w0 226 (by decide), v1 226 (by decide)]; exact d.2.1
  · rw [u0 20 (by decide)]; exact d.2.2.1
  · intro r f hr hf
    rw [u0 (3 + r) (by omega), w0 224 (by decide), v1 224 (by decide)]; exact d.2.2.2 r f hr hf
  · rw [zg_u_off _ _ _ _ (by decide), zg_u_off _ _ _ _ (by decide), zg_u_in]
  · rw [zg_u_off _ _ _ _ (by decide), zg_u_in]; omega
  · rw [zg_u_in]
  · rw [zg_u_off _ _ _ _ (by decide), zg_u_off _ _ _ _ (by decide), zg_u_in]
  · rw [zg_u_off _ _ _ _ (by decide), zg_u_in]; omega
  · rw [zg_u_in]
  · intro r c hr hc
    rw [u0 (23 + r) (by omega), w0 227 (by decide), v1 227 (by decide)]
    have := o r c hr hc
    exact ⟨this.1, this.2.1, by omega⟩
/-- new weights on both sides -/
theorem zj_wts {V1 V2 W : zg_V} {w : Nat → Int} (h : zj_J V sh n T cr lim lf m) (hw : ∀ r, 0 ≤ w r ∧ w r ≤ 16) (hws : zs_sum w n ≤ 16) (hw0 : ∀ r, n ≤ r → w r = 0) (h1 : V1 = zt_an (zv_row V 20 w) n) (hW : zv_on (fun b => b = 226) V1 W) (hW2 : W 226 = w) (h2 : zr_an W V2 n) : zj_A V2 200 (m + 1) := by
  have hJ := h
  obtain ⟨a, b, c, d, e, f, g, o⟩ := h
  have u0 : ∀ x, x ≠ 20 → zv_row V 20 w x = V x := fun x hx => zv_row_o _ _ _ hx
  have w0 : ∀ x, x ≠ 226 → W x = V1 x := fun x hx => hW x hx
  have v1 : ∀ x, 223 ≤ x → V1 x = V x := fun x hx => by rw [h1, zt_an_o _ _ (by omega) (by omega), u0 x (by omega)]
  refine zj_new hJ (fun x x1 x2 => u0 x (by omega)) h1 (fun x hx => w0 x (by omega)) h2 ?_ (zt_T_row a.1 hw hws) ?_ ?_ ?_ ?_ ?_ (cr' := cr) (lf' := lf) (lim' := lim) ?_ ?_ g.2.2 ?_
  · unfold zr_sc
    rw [w0 223 (by decide), v1 223 (by decide)]
    exact b.2.2.2
  · obtain ⟨a1, a2, a3, a4, a5, a6⟩ := b.1
    unfold zr_T
    rw [w0 223 (by decide), v1 223 (by decide), w0 224 (by decide), v1 224 (by decide), w0 225 (by decide), v1 225 (by decide), hW2]
    exact ⟨a1, a2, a3, a4, fun r _ => hw r, hws⟩
  · rw [u0 19 (by decide), w0 225 (by decide), v1 225 (by decide)]; exact d.1
  · rw [zv_row_i, hW2]
  · rw [zv_row_i]; exact hw0
  · intro r f hr hf
    rw [u0 (3 + r) (by omega), w0 224 (by decide), v1 224 (by decide)]; exact d.2.2.2 r f hr hf
  · rw [u0 0 (by decide)]; exact g.1
  · rw [w0 223 (by decide), v1 223 (by decide)]; exact g.2.1
  · intro r c hr hc
    rw [u0 (23 + r) (by omega), w0 227 (by decide), v1 227 (by decide)]
    have := o r c hr hc
    exact ⟨this.1, this.2.1, by omega⟩
/-- even -/
theorem zj_even {V1 V2 : zg_V} (h : zj_J V sh n T cr lim lf m) (h1 : V1 = zt_an (zv_fill V 20 n 1) n) (h2 : zr_ev V1 V2 n) : zj_A V2 200 (m + 1) := by
  obtain ⟨W, w1, w2, w3, w4⟩ := h2
  have h20 := h.2.2.2.1.2.2.1
  have hn := h.1.1.2.1
  have e : (fun j => if j < n then (1 : Int) else V 20 j) = fun j => if j < n then 1 else 0 := by
    funext j
    by_cases q : j < n
    · simp [q]
    · simp only [q, if_false]; exact h20 j (by omega)
  rw [zv_fill_row, e] at h1
  refine zj_wts (w := fun j => if j < n then 1 else 0) h (fun r => by split <;> omega) ?_ (fun r hr => by rw [if_neg (by omega)]) h1 w1 ?_ w4
  · rw [zs_sum_congr (g := fun _ => 1) (fun r hr => by rw [if_pos hr]), zs_sum_1]; omega
  · funext r
    by_cases q : r < n
    · rw [w2 r q, if_pos q]
    · rw [w3 r (by omega), if_neg q, h1, zt_an_o _ _ (by decide) (by decide), zv_row_o _ _ _ (by decide), ← h.2.2.2.1.2.1]
      exact h20 r (by omega)
/-- bag -/
theorem zj_bag {V1 V2 W : zg_V} {z : Int} (h : zj_J V sh n T cr lim lf m) (hn : 0 < n) (h1 : V1 = zt_an (zv_row V 20 (zt_dr n n z (zt_w0 V n))) n) (hW : zv_on (fun b => b = 226) V1 W) (hW2 : W 226 = zt_dr n n z (fun _ => 0)) (h2 : zr_an W V2 n) : zj_A V2 200 (m + 1) ∧ zt_w0 V n = fun _ => 0 := by
  have h20 := h.2.2.2.1.2.2.1
  have hn16 := h.1.1.2.1
  have e : zt_w0 V n = fun _ => 0 := by
    funext j
    unfold zt_w0
    by_cases q : j < n
    · simp [q]
    · simp only [q, if_false]; exact h20 j (by omega)
  rw [e] at h1
  obtain ⟨d1, d2, d3⟩ := zt_dr_0 hn hn16 z
  exact ⟨zj_wts h d1 d2 d3 h1 hW hW2 h2, e⟩
/-- addRow -/
theorem zj_addRow {V1 V2 W1 : zg_V} {x y z d : Int} (h : zj_J V sh n T cr lim lf m) (hn : n < 16) (hx : -2147483648 ≤ x ∧ x < 2147483648) (hy : -2147483648 ≤ y ∧ y < 2147483648) (hz : -2147483648 ≤ z ∧ z < 2147483648) (hd : 0 ≤ d ∧ d ≤ 3) (h1 : V1 = zt_an (zt_ad V n x y z d) (n + 1)) (hr : zr_ar V1 W1 n x y z d) (h2 : zr_ev W1 V2 (n + 1)) : zj_A V2 200 (m + 1) := by
  have hJ := h
  obtain ⟨a, b, c, dd, e, f, g, o⟩ := h
  obtain ⟨W, w1, w2, w3, w4⟩ := h2
  obtain ⟨r1, r2, r3, r4, r5, r6, r7, r8, r9, r10⟩ := hr
  have h20 := dd.2.2.1
  have hT' := zt_ad_T a.1 hn hx hy hz hd h20
  have u0 : ∀ q, q < 23 ∨ 38 < q → q ≠ 20 → q ≠ 1 → q ≠ 19 → q ≠ 3 + n → zt_ad V n x y z d q = V q := fun q q1 q2 q3 q4 q5 => by
    unfold zt_ad
    rw [zt_nv_o _ q1, zv_fill_o _ _ _ _ q2, zt_add_o V n x y z d q3 q4 q5]
  have u19 : zt_ad V n x y z d 19 = zt_add V n x y z d 19 := by
    unfold zt_ad
    rw [zt_nv_o _ (by omega), zv_fill_o _ _ _ _ (by decide)]
  have u3 : zt_ad V n x y z d (3 + n) = zt_add V n x y z d (3 + n) := by
    unfold zt_ad
    rw [zt_nv_o _ (by omega), zv_fill_o _ _ _ _ (by omega)]
  have u20 : ∀ r, zt_ad V n x y z d 20 r = if r < n + 1 then 1 else 0 := fun r => by
    unfold zt_ad
    rw [zt_nv_o _ (by omega)]
    by_cases q : r < n + 1
    · simp [zv_fill, q]
    · have : zv_fill (zt_add V n x y z d) 20 (n + 1) 1 20 r = zt_add V n x y z d 20 r := by simp [zv_fill, q]
      rw [this, zt_add_o V n x y z d (by decide) (by decide) (by omega), h20 r (by omega), if_neg q]
  have v1 : ∀ q, 223 ≤ q → V1 q = V q := fun q hq => by rw [h1, zt_an_o _ _ (by omega) (by omega), u0 q (by omega) (by omega) (by omega) (by omega) (by omega)]
  have w0 : ∀ q, q ≠ 223 → q ≠ 224 → q ≠ 225 → q ≠ 226 → q ≠ 227 → W q = V1 q := fun q q1 q2 q3 q4 q5 => by rw [w1 q q4, r1 q (by omega)]
  have wF : ∀ j, j ≠ 0 → W 223 j = V 223 j := fun j hj => by rw [w1 223 (by decide), r3 j hj, v1 223 (by decide)]
  have w224 : W 224 = W1 224 := w1 224 (by decide)
  have w225 : W 225 = W1 225 := w1 225 (by decide)
  have w226 : ∀ r, W 226 r = if r < n + 1 then 1 else 0 := fun r => by
    by_cases q : r < n + 1
    · rw [w2 r q, if_pos q]
    · rw [w3 r (by omega), r1 226 (by omega), v1 226 (by decide), ← dd.2.1, h20 r (by omega), if_neg q]
  obtain ⟨ad1, ad2, ad3⟩ := zt_add_at V n x y z d
  obtain ⟨ad4, ad5, ad6⟩ := ad2 hn
  have e19 : zt_ad V n x y z d 19 = W 225 := by
    rw [u19, w225]
    funext j
    by_cases q : j = n
    · subst q; rw [ad3 hn, r8]
    · rw [zt_add_19 V hn x y z d q, r9 j q, v1 225 (by decide), ← dd.1]
  have e20 : zt_ad V n x y z d 20 = W 226 := by
    funext r
    rw [u20, w226]
  have eV : ∀ r f, r < 16 → f < 3 → zt_ad V n x y z d (3 + r) f = W 224 (3 * r + f) := by
    intro r f hr hf
    rw [w224]
    by_cases q : r = n
    · subst q
      rw [u3]
      match f, hf with
      | 0, _ => rw [ad4]; exact r4.symm
      | 1, _ => rw [ad5]; exact r5.symm
      | 2, _ => rw [ad6]; exact r6.symm
    · rw [u0 (3 + r) (by omega) (by omega) (by omega) (by omega) (by omega), r7 (3 * r + f) (by omega), v1 224 (by decide)]
      exact dd.2.2.2 r f hr hf
  refine zj_new hJ (fun q q1 q2 => u0 q (by omega) (by omega) (by omega) (by omega) (by omega)) h1 (fun q hq => w0 q (by omega) (by omega) (by omega) (by omega) (by omega)) w4 ?_ hT' ?_ e19 e20 (fun r hr => by rw [u20, if_neg (by omega)]) eV (cr' := cr) (lf' := lf) (lim' := lim) ?_ ?_ g.2.2 ?_
  · unfold zr_sc
    rw [wF 18 (by decide), wF 24 (by decide), wF 25 (by decide)]
    exact b.2.2.2
  · obtain ⟨a1, a2, a3, a4, a5, a6⟩ := hT'
    refine ⟨?_, a2, fun r f hr hf => by rw [← eV r f hr hf]; exact a3 r f hr hf, by rw [← e19]; exact a4, by rw [← e20]; exact a5, by rw [← e20]; exact a6⟩
    rw [w1 223 (by decide), r2]; omega
  · rw [u0 0 (by omega) (by omega) (by omega) (by omega) (by omega)]; exact g.1
  · rw [wF 5 (by decide), wF 6 (by decide), wF 7 (by decide)]; exact g.2.1
  · intro r c hr hc
    have e1 : zt_ad V n x y z d (23 + r) c = 0 := zt_nv_i _ hr hc
    rw [e1, w1 227 (by decide), r10 (4 * r + c) (by omega)]
    exact ⟨rfl, by omega, by omega⟩
end ZJ7b

