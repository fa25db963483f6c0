/-! what the reference's questions look at -/
def zr_lo (V W : zg_V) : Prop := (∀ b, 224 ≤ b → b ≤ 231 → b ≠ 227 → W b = V b) ∧ ∀ j, j < 15 → W 223 j = V 223 j
section ZJ10
variable {V W : zg_V} {n : Nat} {sr ft : Nat → Nat}
theorem zr_lo_T (h : zr_lo V W) (hT : zr_T V n) : zr_T W n := zr_T_r (h.2 0 (by decide)) (h.1 224 (by decide) (by decide) (by decide)) (h.1 225 (by decide) (by decide) (by decide)) (h.1 226 (by decide) (by decide) (by decide)) hT
theorem zr_lo_τ (h : zr_lo V W) : zr_τ W n = zr_τ V n := by
  show (zr_va W, W 225, W 226, n) = (zr_va V, V 225, V 226, n)
  have hva : zr_va W = zr_va V := by unfold zr_va; rw [h.1 224 (by decide) (by decide) (by decide)]
  rw [hva, h.1 225 (by decide) (by decide) (by decide), h.1 226 (by decide) (by decide) (by decide)]
theorem zr_lo_In (h : zr_lo V W) (hI : zr_In V n sr) : zr_In W n sr := by
  obtain ⟨a, b, c, d, e⟩ := hI
  unfold zr_In
  rw [h.1 229 (by decide) (by decide) (by decide), h.1 228 (by decide) (by decide) (by decide), h.2 12 (by decide), h.2 13 (by decide), h.2 14 (by decide)]
  exact ⟨a, b, c, zr_lo_T h d, e⟩
theorem zr_lo_Fe (h : zr_lo V W) (hF : zr_Fe V ft) : zr_Fe W ft := by
  unfold zr_Fe at hF ⊢
  rw [h.1 228 (by decide) (by decide) (by decide), h.1 230 (by decide) (by decide) (by decide), h.1 231 (by decide) (by decide) (by decide)]
  exact hF
theorem zr_lo_kv (h : zr_lo V W) (k : Int) : zr_kv W n sr k = zr_kv V n sr k := by
  have a1 : zr_er W n sr = zr_er V n sr := by
    unfold zr_er zr_ek
    rw [h.1 228 (by decide) (by decide) (by decide), h.1 225 (by decide) (by decide) (by decide), h.1 226 (by decide) (by decide) (by decide)]
  have a2 : zr_sp W = zr_sp V := by unfold zr_sp; rw [h.1 228 (by decide) (by decide) (by decide)]
  have a3 : zr_kd W = zr_kd V := by unfold zr_kd; rw [h.1 228 (by decide) (by decide) (by decide)]
  unfold zr_kv
  rw [a1, a2, a3, h.2 12 (by decide), h.2 13 (by decide), h.2 14 (by decide)]
theorem zr_lo_tr {U : zg_V} (h : zr_lo V W) (h' : zr_lo W U) : zr_lo V U := ⟨fun b b1 b2 b3 => by rw [h'.1 b b1 b2 b3, h.1 b b1 b2 b3], fun j hj => by rw [h'.2 j hj, h.2 j hj]⟩
theorem zr_lo_rf : zr_lo V V := ⟨fun _ _ _ _ => rfl, fun _ _ => rfl⟩
theorem zr_lo_ge (h : ∀ b, 223 ≤ b → W b = V b) : zr_lo V W := ⟨fun b b1 _ _ => h b (by omega), fun j _ => by rw [h 223 (by decide)]⟩
theorem zr_lo_qq (h : zr_qq V W) : zr_lo V W := ⟨fun b b1 b2 _ => h.1 b (by omega), fun j hj => h.2.1 j (by omega)⟩
end ZJ10
/-! the way down, on both sides -/
section ZJ10b
variable {V : zg_V} {sh n lim m : Nat} {T : zj_T} {cr lf : Int}
noncomputable def zj_Lk (V : zg_V) (n : Nat) (T : zj_T) (k : Nat) : List zw_E := zj_Ls (zr_τ V n) (T.2.1 k) (T.2.2.1 k) (V 231 k)
theorem zj_Lk_is (h : zj_J V sh n T cr lim lf m) {k : Nat} (k1 : 1 ≤ k) (k2 : k < 32) (hk : T.1 k = 2) : zy_Ls (zr_τ V n) (T.2.1 k) (T.2.2.1 k) (V 231 k) 3 (zj_Lk V n T k) ∧ zt_nd V (40 + 5 * k) (T.2.2.1 k) (T.2.2.2 k) (zj_Lk V n T k) (zx_lean (zt_τ V n) (T.2.1 k) (T.2.2.1 k) (T.2.2.2 k)) := by
  obtain ⟨L, -, l2, l3, -, -⟩ := zj_Lf h k1 k2 hk
  unfold zj_Lk
  rw [zj_Ls_is l2]
  exact ⟨l2, l3⟩
/-- the class's way -/
noncomputable def zj_wc (V : zg_V) (sh n : Nat) (T : zj_T) (x : Nat → Int) : Nat := zr_rc (fun m => zt_at (V (sh + 1)) (m : Int)) (fun m => zw_go ((T.2.2.1 m, T.2.2.2 m, false, 0) :: zj_Lk V n T m) x (zx_lean (zt_τ V n) (T.2.1 m) (T.2.2.1 m) (T.2.2.2 m))) 4 1
/-- the reference's way -/
noncomputable def zj_wr (V : zg_V) (n : Nat) (T : zj_T) (x : Nat → Int) : Nat := zr_rc (fun m => zr_kv V n T.2.1 (m : Int)) (fun m => zw_go ((T.2.2.1 m, V 231 m, false, 0) :: zj_Lk V n T m) x (zr_lean (zr_τ V n) (T.2.1 m) (T.2.2.1 m) (V 231 m))) 5 1
theorem zj_way (h : zj_J V sh n T cr lim lf m) {x y : Nat → Int} (hxy : ∀ f, f < 3 → x f = y f) : zj_wc V sh n T x = zj_wr V n T y ∧ (1 ≤ zj_wr V n T y ∧ zj_wr V n T y < 32) ∧ T.1 (zj_wr V n T y) ≠ -1 := by
  have hk2 : ∀ k : Nat, zr_kv V n T.2.1 (k : Int) = 2 → (1 ≤ k ∧ k < 32) ∧ T.1 k = 2 := fun k q => by
    obtain ⟨a, -, c⟩ := zj_kv_p h (k := (k : Int)) (by omega)
    have := c q
    rw [show ((k : Int)).toNat = k by omega] at this
    exact ⟨by omega, this⟩
  have e45 : zj_wr V n T y = zr_rc (fun m => zr_kv V n T.2.1 (m : Int)) (fun m => zw_go ((T.2.2.1 m, V 231 m, false, 0) :: zj_Lk V n T m) y (zr_lean (zr_τ V n) (T.2.1 m) (T.2.2.1 m) (V 231 m))) 4 1 :=
    zr_rc_45 (fun k q => by
      obtain ⟨a, b⟩ := hk2 k q
      exact (h.2.2.1.2.2.2.2.1 k a.2 b).1) 4 1 (by decide)
  refine ⟨?_, ?_⟩
  · rw [e45]
    unfold zj_wc
    refine zr_rc_c (fun k => zj_kv h (k : Int)) (fun k q => ?_) 4 1
    have q : zr_kv V n T.2.1 (k : Int) = 2 := by rw [← zj_kv h]; exact q
    obtain ⟨a, b⟩ := hk2 k q
    obtain ⟨L, l1, l2, l3, l4, l5⟩ := zj_Lf h a.1 a.2 b
    have hf := l3.2.1
    rw [l5, l4]
    refine zw_go_c hxy _ (fun e he => ?_) _
    rcases List.mem_cons.mp he with z | z
    · subst z; exact hf
    · exact ((zy_Ls_mem hf (zj_Lk_is h a.1 a.2 b).1).2 e z).1
  · have hp := zr_rc_p (kv := fun m => zr_kv V n T.2.1 (m : Int)) (gl := fun m => zw_go ((T.2.2.1 m, V 231 m, false, 0) :: zj_Lk V n T m) y (zr_lean (zr_τ V n) (T.2.1 m) (T.2.2.1 m) (V 231 m))) (D := fun m => (1 ≤ m ∧ m < 32) ∧ T.1 m ≠ -1) (fun k hk q => by
      obtain ⟨a, b⟩ := hk2 k q
      obtain ⟨c, -, -, d, e⟩ := h.2.2.1.2.2.2.2.1 k a.2 b
      exact ⟨⟨by omega, d⟩, ⟨by omega, e⟩⟩) 5 1 ⟨by omega, h.2.2.1.2.2.2.2.2.2.2⟩
    exact hp
/-- votes of the class, one tally, rows below i -/
def zt_ty (V : zg_V) (g : Nat → Nat) (i : Nat) : zg_V := fun a j => if 23 ≤ a ∧ a < 23 + i ∧ V 20 (a - 23) = 0 ∧ j = g (a - 23) then V a j + 1 else V a j
theorem zt_ty_o (V : zg_V) (g : Nat → Nat) {i a : Nat} (_hi : i ≤ 16) (h : a < 23 ∨ 38 < a) : zt_ty V g i a = V a := by
  funext j
  unfold zt_ty
  rw [if_neg (by omega)]
theorem zt_ty_0 (V : zg_V) (g : Nat → Nat) : zt_ty V g 0 = V := by
  funext a j
  unfold zt_ty
  rw [if_neg (by omega)]
theorem zt_ty_n (V : zg_V) (g : Nat → Nat) {i : Nat} (h : V 20 i ≠ 0) : zt_ty V g i = zt_ty V g (i + 1) := by
  funext a j
  unfold zt_ty
  by_cases e : a = 23 + i
  · subst e
    rw [if_neg (by omega), if_neg (fun q => h (by have := q.2.2.1; rw [show 23 + i - 23 = i by omega] at this; exact this))]
  · by_cases q : 23 ≤ a ∧ a < 23 + i ∧ V 20 (a - 23) = 0 ∧ j = g (a - 23)
    · rw [if_pos q, if_pos ⟨q.1, by omega, q.2.2⟩]
    · rw [if_neg q, if_neg (fun z => q ⟨z.1, by omega, z.2.2⟩)]
theorem zt_ty_y (V : zg_V) (g : Nat → Nat) {i : Nat} (h : V 20 i = 0) : zg_u (zt_ty V g i) (23 + i) (g i) (zt_ty V g i (23 + i) (g i) + 1) = zt_ty V g (i + 1) := by
  funext a j
  by_cases e : a = 23 + i
  · subst e
    have e0 : ∀ j, zt_ty V g i (23 + i) j = V (23 + i) j := fun j => by unfold zt_ty; rw [if_neg (by omega)]
    by_cases q : j = g i
    · subst q
      rw [zg_u_in, e0]
      unfold zt_ty
      rw [if_pos ⟨by omega, by omega, by rw [show 23 + i - 23 = i by omega]; exact h, by rw [show 23 + i - 23 = i by omega]⟩]
    · rw [zg_u_off _ _ _ _ q, e0]
      unfold zt_ty
      rw [if_neg (fun z => q (by have := z.2.2.2; rw [show 23 + i - 23 = i by omega] at this; exact this))]
  · rw [zg_u_out _ _ _ _ e]
    unfold zt_ty
    by_cases q : 23 ≤ a ∧ a < 23 + i ∧ V 20 (a - 23) = 0 ∧ j = g (a - 23)
    · rw [if_pos q, if_pos ⟨q.1, by omega, q.2.2⟩]
    · rw [if_neg q, if_neg (fun z => q ⟨z.1, by omega, z.2.2⟩)]
/-- the reference's tally, rows below i -/
def zr_tq (V W : zg_V) (g : Nat → Nat) (i : Nat) : Prop := zv_on (fun b => b = 223 ∨ b = 227 ∨ (232 ≤ b ∧ b ≤ 241)) V W ∧ (∀ j, j < 15 → W 223 j = V 223 j) ∧ zr_sc W ∧ ∀ j, j < 64 → W 227 j = if j / 4 < i ∧ V 226 (j / 4) = 0 ∧ j % 4 = g (j / 4) then V 227 j + 1 else V 227 j
theorem zr_tq_lo {W : zg_V} {g : Nat → Nat} {i : Nat} (h : zr_tq V W g i) : zr_lo V W := ⟨fun b b1 b2 b3 => h.1 b (by omega), h.2.1⟩
theorem zr_tq_0 (hs : zr_sc V) (g : Nat → Nat) : zr_tq V V g 0 := ⟨fun _ _ => rfl, fun _ _ => rfl, hs, fun j _ => by rw [if_neg (by omega)]⟩
theorem zr_tq_n {W : zg_V} {g : Nat → Nat} {i : Nat} (h0 : V 226 i ≠ 0) (h : zr_tq V W g i) : zr_tq V W g (i + 1) := by
  refine ⟨h.1, h.2.1, h.2.2.1, fun j hj => ?_⟩
  rw [h.2.2.2 j hj]
  by_cases q : j / 4 < i ∧ V 226 (j / 4) = 0 ∧ j % 4 = g (j / 4)
  · rw [if_pos q, if_pos ⟨by omega, q.2⟩]
  · rw [if_neg q, if_neg (fun z => q ⟨by
      by_cases e : j / 4 = i
      · rw [e] at z; exact absurd z.2.1 h0
      · omega, z.2⟩)]
theorem zr_tq_y {W U : zg_V} {g : Nat → Nat} {i : Nat} (h0 : V 226 i = 0) (_hi : i < 16) (hg : g i < 4) (h : zr_tq V W g i) (hq : zr_qq W U) : zr_tq V (zg_u U 227 (4 * i + g i) (U 227 (4 * i + g i) + 1)) g (i + 1) := by
  have e7 : U 227 = W 227 := hq.1 227 (by omega)
  refine ⟨fun b hb => ?_, fun j hj => ?_, ?_, fun j hj => ?_⟩
  · rw [zg_u_out _ _ _ _ (by omega), hq.1 b (by omega)]
    exact h.1 b hb
  · rw [zg_u_out _ _ _ _ (by decide), hq.2.1 j (by omega)]
    exact h.2.1 j hj
  · unfold zr_sc
    rw [zg_u_out _ _ _ _ (by decide)]
    exact hq.2.2
  · by_cases e : j = 4 * i + g i
    · subst e
      have a1 : (4 * i + g i) / 4 = i := by omega
      have a2 : (4 * i + g i) % 4 = g i := by omega
      rw [zg_u_in, e7, h.2.2.2 _ hj, if_neg (by rw [a1]; omega), if_pos ⟨by omega, by rw [a1]; exact h0, by rw [a1, a2]⟩]
    · rw [zg_u_off _ _ _ _ e, e7, h.2.2.2 j hj]
      by_cases q : j / 4 < i ∧ V 226 (j / 4) = 0 ∧ j % 4 = g (j / 4)
      · rw [if_pos q, if_pos ⟨by omega, q.2⟩]
      · rw [if_neg q, if_neg (fun z => q ⟨by
          by_cases e2 : j / 4 = i
          · have := z.2.2
            rw [e2] at this
            omega
          · omega, z.2⟩)]
theorem zj_tally {V1 V2 : zg_V} {g : Nat → Nat} (h : zj_J V sh n T cr lim lf m) (h1 : V1 = zt_ty V g n) (h2 : zr_tq V1 V2 g n) : zj_A V2 sh (m + 1) := by
  have hn := h.1.1.2.1
  have v1 : ∀ b, b < 23 ∨ 38 < b → V1 b = V b := fun b hb => by rw [h1]; exact zt_ty_o V g hn hb
  refine ⟨n, T, cr, lim, lf, zj_J_fr (V := V) (fun b b1 b2 => ?_) (fun b b1 b2 b3 => ?_) (fun j hj => ?_) h2.2.2.1 ?_ (fun r c hr hc => ?_) h⟩
  · rw [h2.1 b (by omega), v1 b (by omega)]
  · rw [h2.1 b (by omega), v1 b (by omega)]
  · rw [h2.2.1 j hj, v1 223 (by omega)]
  · rw [h2.1 217 (by omega), v1 217 (by omega)]
    exact h.2.2.2.2.1.2
  · obtain ⟨o1, o2, o3⟩ := h.2.2.2.2.2.2.2 r c hr hc
    have a1 : (4 * r + c) / 4 = r := by omega
    have a2 : (4 * r + c) % 4 = c := by omega
    have e1 : V2 (23 + r) c = if r < n ∧ V 20 r = 0 ∧ c = g r then V (23 + r) c + 1 else V (23 + r) c := by
      rw [h2.1 (23 + r) (by omega), h1]
      unfold zt_ty
      rw [show 23 + r - 23 = r by omega]
      by_cases q : r < n ∧ V 20 r = 0 ∧ c = g r
      · rw [if_pos q, if_pos ⟨by omega, by omega, q.2⟩]
      · rw [if_neg q, if_neg (fun z => q ⟨by omega, z.2.2⟩)]
    have e2 : V2 227 (4 * r + c) = if r < n ∧ V 20 r = 0 ∧ c = g r then V 227 (4 * r + c) + 1 else V 227 (4 * r + c) := by
      rw [h2.2.2.2 (4 * r + c) (by omega), v1 226 (by omega), v1 227 (by omega), a1, a2, ← h.2.2.2.1.2.1]
    rw [e1, e2, o1]
    refine ⟨rfl, ?_, ?_⟩
    · split <;> omega
    · split <;> omega
end ZJ10b

